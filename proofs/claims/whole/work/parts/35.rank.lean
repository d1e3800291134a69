theorem fb_holes : ∀ (m n : Nat) (f : Nat → Nat), (∀ i, i < n → f i < m) → (∀ i j, i < j → j < n → f i ≠ f j) → n ≤ m := by
  intro m
  induction m with
  | zero =>
    intro n f h1 _
    rcases Nat.eq_zero_or_pos n with h | h
    · omega
    · exact absurd (h1 0 h) (Nat.not_lt_zero _)
  | succ m ih =>
    intro n f h1 h2
    by_cases hx : ∃ i, i < n ∧ f i = m
    · obtain ⟨a, ha, hfa⟩ := hx
      have hg := ih (n - 1) (fun i => if i < a then f i else f (i + 1)) (by
        intro i hi
        by_cases q : i < a
        · simp only [if_pos q]
          have b1 := h1 i (by omega)
          have b2 := h2 i a q ha
          omega
        · simp only [if_neg q]
          have b1 := h1 (i + 1) (by omega)
          have b2 := h2 a (i + 1) (by omega) (by omega)
          omega) (by
        intro i j hij hj
        by_cases q : i < a
        · by_cases r : j < a
          · simp only [if_pos q, if_pos r]
            exact h2 i j hij (by omega)
          · simp only [if_pos q, if_neg r]
            exact h2 i (j + 1) (by omega) (by omega)
        · have r : ¬ j < a := by omega
          simp only [if_neg q, if_neg r]
          exact h2 (i + 1) (j + 1) (by omega) (by omega))
      omega
    · have hg := ih n f (fun i hi => by
        have b1 := h1 i hi
        have b2 : f i ≠ m := fun e => hx ⟨i, hi, e⟩
        omega) h2
      omega
/-- two of them in one place -/
theorem fb_twice {m n : Nat} {f : Nat → Nat} (h : ∀ i, i < n → f i < m) (hm : m < n) : ∃ i j, i < j ∧ j < n ∧ f i = f j := by
  refine Classical.byContradiction fun hx => ?_
  have := fb_holes m n f h (fun i j hij hj e => hx ⟨i, j, hij, hj, e⟩)
  omega
/-- as many as places, none twice: each place is taken -/
theorem fb_onto {n : Nat} {f : Nat → Nat} (h : ∀ i, i < n → f i < n) (h2 : ∀ i j, i < j → j < n → f i ≠ f j) {y : Nat} (hy : y < n) : ∃ i, i < n ∧ f i = y := by
  refine Classical.byContradiction fun hx => ?_
  have hne : ∀ i, i < n → f i ≠ y := fun i hi e => hx ⟨i, hi, e⟩
  have := fb_holes (n - 1) n (fun i => if f i < y then f i else f i - 1) (by
    intro i hi
    have b1 := h i hi
    have b2 := hne i hi
    by_cases q : f i < y
    · simp only [if_pos q]; omega
    · simp only [if_neg q]; omega) (by
    intro i j hij hj
    have b1 := hne i (by omega)
    have b2 := hne j hj
    have b3 := h2 i j hij hj
    by_cases q : f i < y
    · by_cases r : f j < y
      · simp only [if_pos q, if_pos r]; exact b3
      · simp only [if_pos q, if_neg r]; omega
    · by_cases r : f j < y
      · simp only [if_neg q, if_pos r]; omega
      · simp only [if_neg q, if_neg r]; omega)
  omega
/-- the order of the teams, by a key -/
def rKey (A : Nat → Int32) (a : Nat) : Int × Int × Nat := if A 13 = -1 then (1, -(A 9).toInt, a) else (0, (A 13).toInt, a)
def rLt (p q : Int × Int × Nat) : Prop := p.1 < q.1 ∨ (p.1 = q.1 ∧ (p.2.1 < q.2.1 ∨ (p.2.1 = q.2.1 ∧ p.2.2 < q.2.2)))
theorem i_lt {x y : Int32} : x < y ↔ x.toInt < y.toInt := Int32.lt_iff_toInt_lt
theorem i_ne {x y : Int32} : ¬ x = y ↔ x.toInt ≠ y.toInt := ⟨fun h e => h (Int32.toInt_inj.mp e), fun h e => h (by rw [e])⟩
theorem mAhead_key {A B : Nat → Int32} {a b : Nat} : mAhead A B a b = true ↔ rLt (rKey A a) (rKey B b) := by
  unfold mAhead rKey rLt
  by_cases h1 : A 13 = B 13
  · rw [if_neg (not_not_intro h1)]
    by_cases h2 : A 13 = -1
    · have h3 : B 13 = -1 := by rw [← h1]; exact h2
      rw [if_pos h2, if_pos h3]
      by_cases h4 : A 9 = B 9
      · rw [if_neg (fun q => q.2 h4), decide_eq_true_eq]
        simp only [h4, Int.lt_irrefl, true_and, false_or]
      · rw [if_pos ⟨h2, h4⟩, decide_eq_true_eq, i_lt]
        have := i_ne.mp h4
        simp only [Int.lt_irrefl, true_and, false_or]
        constructor
        · intro q; left; omega
        · rintro (q | q)
          · omega
          · exact absurd q.1 (by omega)
    · have h3 : ¬ B 13 = -1 := by rw [← h1]; exact h2
      rw [if_neg h2, if_neg h3, if_neg (fun q => h2 q.1), decide_eq_true_eq]
      simp only [h1, Int.lt_irrefl, true_and, false_or]
  · rw [if_pos h1, decide_eq_true_eq]
    have h5 := i_ne.mp h1
    by_cases h2 : A 13 = -1
    · by_cases h3 : B 13 = -1
      · exact absurd (h2.trans h3.symm) h1
      · rw [if_pos h2, if_neg h3]
        simp [h2]
    · by_cases h3 : B 13 = -1
      · rw [if_neg h2, if_pos h3]
        simp [h2, h3]
      · rw [if_neg h2, if_neg h3, i_lt]
        simp only [h2, h3, not_false_eq_true, true_and, false_or]
        omega
theorem cnt_lt {q r : Nat → Bool} {n a : Nat} (h : ∀ k, k < n → q k = true → r k = true) (ha : a < n) (h1 : q a = false) (h2 : r a = true) : cnt q n < cnt r n := by
  have key : ∀ m, m ≤ n → cnt q m ≤ cnt r m ∧ (a < m → cnt q m < cnt r m) := by
    intro m
    induction m with
    | zero => exact fun _ => ⟨Nat.le_refl _, fun z => absurd z (Nat.not_lt_zero a)⟩
    | succ m ih =>
      intro hm
      obtain ⟨i1, i2⟩ := ih (by omega)
      have hq := h m (by omega)
      unfold cnt
      rcases Nat.lt_trichotomy a m with z | z | z
      · have := i2 z
        refine ⟨?_, fun _ => ?_⟩ <;> by_cases c : q m = true <;> by_cases d : r m = true <;> simp_all <;> omega
      · subst z
        rw [h1, h2]
        simp
        omega
      · refine ⟨?_, fun w => absurd w (by omega)⟩
        by_cases c : q m = true <;> by_cases d : r m = true <;> simp_all <;> omega
  exact (key n (Nat.le_refl n)).2 ha
theorem cnt_bound {q : Nat → Bool} {n a : Nat} (ha : a < n) (h : q a = false) : cnt q n < n := by
  have key : ∀ m, cnt q m ≤ m ∧ (a < m → cnt q m < m) := by
    intro m
    induction m with
    | zero => exact ⟨Nat.le_refl _, fun z => absurd z (Nat.not_lt_zero a)⟩
    | succ m ih =>
      obtain ⟨i1, i2⟩ := ih
      unfold cnt
      rcases Nat.lt_trichotomy a m with z | z | z
      · have := i2 z
        refine ⟨?_, fun _ => ?_⟩ <;> split <;> omega
      · subst z
        rw [h]
        simp
        omega
      · refine ⟨?_, fun w => absurd w (by omega)⟩
        split <;> omega
  exact (key n).2 ha
theorem mRank_lt (tv : Nat → TV) {nt t : Nat} (h : t < nt) : mRank tv nt t < nt := cnt_bound h (by simp)
theorem mRank_mono (tv : Nat → TV) {nt a b : Nat} (ha : a < nt) (hab : mAhead (tv a).1 (tv b).1 a b = true) : mRank tv nt a < mRank tv nt b := by
  have k1 := mAhead_key.mp hab
  have hne : ¬ a = b := fun e => by subst e; unfold rLt at k1; omega
  refine cnt_lt (a := a) (fun k hk hq => ?_) ha (by simp) ?_
  · rw [Bool.and_eq_true] at hq ⊢
    have k2 := mAhead_key.mp hq.2
    have k3 : rLt (rKey (tv k).1 k) (rKey (tv b).1 b) := by unfold rLt at *; omega
    refine ⟨decide_eq_true (fun e => ?_), mAhead_key.mpr k3⟩
    subst e
    unfold rLt at k3; omega
  · rw [Bool.and_eq_true]
    exact ⟨decide_eq_true hne, hab⟩
theorem mRank_ne (tv : Nat → TV) {nt a b : Nat} (ha : a < nt) (hb : b < nt) (h : a ≠ b) : mRank tv nt a ≠ mRank tv nt b := by
  have : rLt (rKey (tv a).1 a) (rKey (tv b).1 b) ∨ rLt (rKey (tv b).1 b) (rKey (tv a).1 a) := by
    have e1 : (rKey (tv a).1 a).2.2 = a := by unfold rKey; split <;> rfl
    have e2 : (rKey (tv b).1 b).2.2 = b := by unfold rKey; split <;> rfl
    unfold rLt; omega
  rcases this with q | q
  · exact Nat.ne_of_lt (mRank_mono tv ha (mAhead_key.mpr q))
  · exact Nat.ne_of_gt (mRank_mono tv hb (mAhead_key.mpr q))
/-- each rank has a team -/
theorem mRank_at (tv : Nat → TV) {nt i : Nat} (h : i < nt) : ∃ j, j < nt ∧ mRank tv nt j = i :=
  fb_onto (f := mRank tv nt) (fun _ ht => mRank_lt tv ht) (fun _ _ hij hj => mRank_ne tv (by omega) hj (by omega)) h
theorem oM_eq {F E : Nat → Int32} {g t z : Nat} (h0 : F 0 = E 0) (h1 : F 1 = E 1) (h2 : F 2 = E 2) (h3 : F 3 = E 3) (h4 : F 4 = E 4) (h5 : F 5 = E 5) : oM F g t z = oM E g t z := by
  unfold oM; rw [h0, h1, h2, h3, h4, h5]
theorem mSeeC_try {MF g : Nat → Int32} {ns nt : Nat} {tv : Nat → TV} {i k : Nat} (h1 : isIn (nI i) 0 (MF 2 - 1) = true) (hi : i < 6) (hk1 : 1 ≤ k) (hk : k ≤ 200) :
    mSeeC (nI i) (nI k) 0 MF g ns nt tv = (((mIt g ns nt (upd MF 0 0, tv) k).2 i).1 9, upd MF 0 0) ∧ ∀ z, mSeeZ (nI i) (nI k) 0 MF tv z = tab tv := by
  have h2 : isIn (nI k) 1 400 = true := decide_eq_true ⟨Int32.not_lt.mpr (nI_le (a := 1) hk1 (by omega)), Int32.not_lt.mpr (nI_le (b := 400) (by omega) (by decide))⟩
  have h3 : isIn 0 0 2 = true := by decide
  refine ⟨?_, fun z => ?_⟩
  · unfold mSeeC
    rw [if_pos (by rw [h1, h3]; rfl), if_pos h2, nI_clamp (by omega), nI_clamp (by omega)]
    rfl
  · unfold mSeeZ
    rw [if_pos (by rw [h1, h2, h3]; rfl)]
theorem mOK_eff {T : TV} {e : Int32} (h : mOK T) : mOK (upd T.1 7 e, T.2) := h
