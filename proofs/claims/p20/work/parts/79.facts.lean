/-! p20: what the law asks, of the pure picture -/
theorem side_4 (F : Nat → Int32) (x : Int32) : cSide F x = 0 ∨ cSide F x = 1 ∨ cSide F x = 2 ∨ cSide F x = 3 := by
  unfold cSide
  split
  · exact Or.inr (Or.inr (Or.inr rfl))
  · split
    · exact Or.inr (Or.inl rfl)
    · split
      · exact Or.inr (Or.inr (Or.inl rfl))
      · exact Or.inl rfl
theorem side_v {x : Int32} (h : x = 0 ∨ x = 1 ∨ x = 2 ∨ x = 3) : (if decide (x = 0) = true then 1 else 0) + (if decide (x = 1) = true then 1 else 0) + (if decide (x = 2) = true then 1 else 0) + (if decide (x = 3) = true then 1 else 0) = 1 := by
  rcases h with h | h | h | h <;> subst h <;> decide
theorem lie_sum (F P : Nat → Int32) : ∀ n, cLie F P n 0 + cLie F P n 1 + cLie F P n 2 + cLie F P n 3 = n
  | 0 => rfl
  | n + 1 => by
    have ih := lie_sum F P n
    have hv := side_v (side_4 F (P n))
    unfold cLie at ih ⊢
    show (cnt (fun k => decide (cSide F (P k) = 0)) n + if decide (cSide F (P n) = 0) = true then 1 else 0) + (cnt (fun k => decide (cSide F (P k) = 1)) n + if decide (cSide F (P n) = 1) = true then 1 else 0) + (cnt (fun k => decide (cSide F (P k) = 2)) n + if decide (cSide F (P n) = 2) = true then 1 else 0) + (cnt (fun k => decide (cSide F (P k) = 3)) n + if decide (cSide F (P n) = 3) = true then 1 else 0) = n + 1
    generalize (if decide (cSide F (P n) = 0) = true then 1 else 0) = a at hv ⊢
    generalize (if decide (cSide F (P n) = 1) = true then 1 else 0) = b at hv ⊢
    generalize (if decide (cSide F (P n) = 2) = true then 1 else 0) = c at hv ⊢
    generalize (if decide (cSide F (P n) = 3) = true then 1 else 0) = d at hv ⊢
    omega
theorem cnt_but (q : Nat → Bool) (k0 : Nat) : ∀ n, cnt q n ≤ cnt (fun k => q k && decide (k ≠ k0)) n + 1
  | 0 => by show 0 ≤ 0 + 1; omega
  | n + 1 => by
    by_cases e : n = k0
    · have h1 : cnt q n = cnt (fun k => q k && decide (k ≠ k0)) n := cnt_cong (fun k hk => by
        have : k ≠ k0 := by omega
        simp [this])
      show cnt q n + (if q n = true then 1 else 0) ≤ cnt (fun k => q k && decide (k ≠ k0)) n + (if (q n && decide (n ≠ k0)) = true then 1 else 0) + 1
      rw [← h1]
      split <;> split <;> omega
    · have ih := cnt_but q k0 n
      show cnt q n + (if q n = true then 1 else 0) ≤ cnt (fun k => q k && decide (k ≠ k0)) n + (if (q n && decide (n ≠ k0)) = true then 1 else 0) + 1
      have e2 : (q n && decide (n ≠ k0)) = q n := by simp [e]
      rw [e2]
      omega
theorem cnt_held {L : Nat → Int32} {n : Nat} (hn : n ≤ 1000) : ∀ (nh : Nat) (q : Nat → Bool), (∀ k, k < n → q k = true → ∃ r, r < nh ∧ L r = nI k) → cnt q n ≤ nh
  | 0, q, h => by
    have : cnt q n = cnt (fun _ => false) n := cnt_cong (fun k hk => by
      cases hq : q k with
      | false => rfl
      | true => obtain ⟨r, hr, _⟩ := h k hk hq; omega)
    rw [this]
    have z : ∀ m, cnt (fun _ => false) m = 0 := fun m => by
      induction m with
      | zero => rfl
      | succ m ih => show cnt (fun _ => false) m + (if false = true then 1 else 0) = 0; rw [ih]; rfl
    rw [z]; exact Nat.le_refl 0
  | nh + 1, q, h => by
    have h1 := cnt_but q (L nh).toNatClampNeg n
    have h2 := cnt_held (L := L) hn nh (fun k => q k && decide (k ≠ (L nh).toNatClampNeg)) (fun k hk hq => by
      rw [Bool.and_eq_true, decide_eq_true_iff] at hq
      obtain ⟨r, hr, e⟩ := h k hk hq.1
      refine ⟨r, ?_, e⟩
      rcases Nat.lt_or_ge r nh with z | z
      · exact z
      · have er : r = nh := by omega
        subst er
        exact absurd (by rw [e, nI_clamp (by omega)]) hq.2)
    omega
theorem lie_hand {F P L : Nat → Int32} {n nh : Nat} {B : Int} (h : PLI n nh B P L) (hn : n ≤ 8) : cLie F P n 3 ≤ nh := by
  unfold cLie
  refine cnt_held (L := L) (by omega) nh _ (fun k hk hq => h.2 k hk ?_)
  have h3 := of_decide_eq_true hq
  unfold cSide at h3
  split at h3
  · assumption
  · split at h3
    · exact absurd h3 (by decide)
    · split at h3 <;> exact absurd h3 (by decide)
theorem gl_in {S U : Nat → Int32} {x : Int32} {lo hi : Int} {ns : Nat} (h0 : lo ≤ 0 ∧ 0 ≤ hi) (h : ∀ i, i < ns → lo ≤ (U i).toInt ∧ (U i).toInt ≤ hi) : ∀ i, i ≤ ns → lo ≤ (cGL S U x i).2.toInt ∧ (cGL S U x i).2.toInt ≤ hi
  | 0, _ => by
    show lo ≤ (0 : Int32).toInt ∧ (0 : Int32).toInt ≤ hi
    rw [show (0 : Int32).toInt = 0 from by decide]; exact h0
  | i + 1, hi' => by
    unfold cGL
    split
    · exact h i (by omega)
    · exact gl_in h0 h i (by omega)
theorem trk_gr {KF S U V : Nat → Int32} {ns : Nat} (h : TrkI KF U V ns) (x : Int32) : (-5 ≤ (cGr S U ns x).toInt ∧ (cGr S U ns x).toInt ≤ 5) ∧ 0 ≤ (cGr S V ns x).toInt ∧ (cGr S V ns x).toInt ≤ 9 :=
  ⟨gl_in ⟨by decide, by decide⟩ (fun i hi => (h.2.2.2.2 i hi).1) ns (Nat.le_refl _), gl_in ⟨by decide, by decide⟩ (fun i hi => (h.2.2.2.2 i hi).2) ns (Nat.le_refl _)⟩
/-! ranks -/
def rKey (A : Nat → Int32) (a : Nat) : Int × Int × Nat := if cE A = true then (0, (A 16).toInt, a) else (1, -(A 10).toInt, a)
def rLt (p q : Int × Int × Nat) : Prop := p.1 < q.1 ∨ (p.1 = q.1 ∧ (p.2.1 < q.2.1 ∨ (p.2.1 = q.2.1 ∧ p.2.2 < q.2.2)))
theorem ahead_key {A B : Nat → Int32} {a b : Nat} (ha : A 0 = nI a) (hb : B 0 = nI b) (ha6 : a < 1000) (hb6 : b < 1000) : cAhead A B = true ↔ rLt (rKey A a) (rKey B b) := by
  unfold cAhead rLt rKey
  rw [ha, hb]
  have hab : (nI a < nI b) ↔ a < b := nI_ltI (by omega) (by omega)
  cases hA : cE A <;> cases hB : cE B
  · rw [if_neg (fun z => z rfl), if_neg (fun z => absurd z.1 (by decide))]
    by_cases c : A 10 = B 10
    · rw [if_neg (fun z => z.2 c), decide_eq_true_iff, hab, c]
      simp
    · have c2 := i_ne.mp c
      rw [if_pos ⟨rfl, c⟩, decide_eq_true_iff, i_lt]
      simp
      omega
  · rw [if_pos (by decide)]
    simp
  · rw [if_pos (by decide)]
    simp
  · rw [if_neg (fun z => z rfl)]
    by_cases c : A 16 = B 16
    · rw [if_neg (fun z => z.2 c), if_neg (fun z => absurd z.1 (by decide)), decide_eq_true_iff, hab, c]
      simp
    · have c2 := i_ne.mp c
      rw [if_pos ⟨rfl, c⟩, decide_eq_true_iff, i_lt]
      simp
      omega
def Num (T : Nat → TV) (n : Nat) : Prop := ∀ t, t < n → (T (t + 2)).1 0 = nI t
theorem rank_lt {T : Nat → TV} {n t : Nat} (hn : n ≤ 6) (hN : Num T n) (ht : t < n) : cRankOf T (T (t + 2)).1 n < n := by
  refine cnt_bound ht ?_
  cases h : cAhead (T (t + 2)).1 (T (t + 2)).1 with
  | false => rfl
  | true =>
    have := (ahead_key (hN t ht) (hN t ht) (by omega) (by omega)).mp h
    unfold rLt at this
    omega
theorem rank_mono {T : Nat → TV} {n a b : Nat} (hn : n ≤ 6) (hN : Num T n) (ha : a < n) (hb : b < n) (h : cAhead (T (a + 2)).1 (T (b + 2)).1 = true) : cRankOf T (T (a + 2)).1 n < cRankOf T (T (b + 2)).1 n := by
  have hab := (ahead_key (hN a ha) (hN b hb) (by omega) (by omega)).mp h
  refine cnt_lt (fun k hk h1 => ?_) ha ?_ h
  · have h2 := (ahead_key (hN k hk) (hN a ha) (by omega) (by omega)).mp h1
    refine (ahead_key (hN k hk) (hN b hb) (by omega) (by omega)).mpr ?_
    unfold rLt at *
    omega
  · cases h1 : cAhead (T (a + 2)).1 (T (a + 2)).1 with
    | false => rfl
    | true =>
      have := (ahead_key (hN a ha) (hN a ha) (by omega) (by omega)).mp h1
      unfold rLt at this
      omega
theorem rank_ne {T : Nat → TV} {n a b : Nat} (hn : n ≤ 6) (hN : Num T n) (ha : a < n) (hb : b < n) (h : a ≠ b) : cRankOf T (T (a + 2)).1 n ≠ cRankOf T (T (b + 2)).1 n := by
  have key : rLt (rKey (T (a + 2)).1 a) (rKey (T (b + 2)).1 b) ∨ rLt (rKey (T (b + 2)).1 b) (rKey (T (a + 2)).1 a) := by
    have e1 : (rKey (T (a + 2)).1 a).2.2 = a := by unfold rKey; split <;> rfl
    have e2 : (rKey (T (b + 2)).1 b).2.2 = b := by unfold rKey; split <;> rfl
    unfold rLt
    omega
  rcases key with z | z
  · have := rank_mono hn hN ha hb ((ahead_key (hN a ha) (hN b hb) (by omega) (by omega)).mpr z)
    omega
  · have := rank_mono hn hN hb ha ((ahead_key (hN b hb) (hN a ha) (by omega) (by omega)).mpr z)
    omega
theorem rank_is {T : Nat → TV} {n k t : Nat} (hn : n ≤ 6) (hN : Num T n) (ht : t < n) (h : cRankOf T (T (t + 2)).1 n = k) : cAtRank T n (nI k) = nI t := by
  have hk : k < n := by rw [← h]; exact rank_lt hn hN ht
  have e : ft (fun t => decide (nI (cRankOf T (T (t + 2)).1 n) = nI k)) n = t := by
    have h1 := ft_lt (q := fun t => decide (nI (cRankOf T (T (t + 2)).1 n) = nI k)) ht (by show decide _ = true; rw [h]; exact decide_eq_true rfl)
    have h2 := of_decide_eq_true (ft_yes (fun t => decide (nI (cRankOf T (T (t + 2)).1 n) = nI k)) n h1)
    have h3 := rank_lt hn hN h1
    have h4 := nI_inj' (by omega) (by omega) h2
    refine Classical.byContradiction fun z => ?_
    exact rank_ne hn hN h1 ht z (h4.trans h.symm)
  unfold cAtRank
  rw [e, if_pos ht]
  exact hN t ht
theorem rank_at {T : Nat → TV} {n k : Nat} (hn : n ≤ 6) (hN : Num T n) (hk : k < n) : ∃ t, t < n ∧ cAtRank T n (nI k) = nI t := by
  obtain ⟨t, ht, e⟩ := fb_onto (n := n) (f := fun t => cRankOf T (T (t + 2)).1 n) (fun i hi => rank_lt hn hN hi) (fun i j hij hj => rank_ne hn hN (by omega) hj (by omega)) hk
  exact ⟨t, ht, rank_is hn hN ht e⟩
theorem rank_on {T : Nat → TV} {n t : Nat} (hn : n ≤ 6) (hN : Num T n) (ht : t < n) : ∃ k, k < n ∧ cAtRank T n (nI k) = nI t := ⟨_, rank_lt hn hN ht, rank_is hn hN ht rfl⟩
/-! all teams -/
def TJ (T : TV) (tk : Nat) (len : Int32) : Prop := ∃ ln w n nh : Nat, RG ln w n nh ∧ TI T ln w n nh tk len
theorem TJ.ok {T : TV} {tk : Nat} {len : Int32} (h : TJ T tk len) : cOK T := by
  obtain ⟨ln, w, n, nh, hR, hF, -⟩ := h
  have e3 : cN T = n := by unfold cN; rw [hF.2.2.1]; exact nI_clamp (by have := hR.2.2.1; omega)
  have e6 : cH T = nh := by unfold cH; rw [hF.2.2.2.1]; exact nI_clamp (by have := hR.2.2.2; omega)
  unfold cOK
  rw [e3, e6]
  exact ⟨⟨hF.2.2.1, hR.2.2.1⟩, hF.2.2.2.1, hR.2.2.2⟩
theorem TJ.tick {T : TV} {tk ns : Nat} {S U V : Nat → Int32} {len : Int32} (h : TJ T tk len) (htk : tk < 120) : TJ (cTickN S U V ns len (nI (tk + 1)) T) (tk + 1) len ∧ TkF T (cTickN S U V ns len (nI (tk + 1)) T) tk (wayT S U V ns T) := by
  obtain ⟨ln, w, n, nh, hR, hT⟩ := h
  have e3 : cN T = n := by unfold cN; rw [hT.1.2.2.1]; exact nI_clamp (by have := hR.2.2.1; omega)
  have e6 : cH T = nh := by unfold cH; rw [hT.1.2.2.2.1]; exact nI_clamp (by have := hR.2.2.2; omega)
  unfold cTickN
  rw [e3, e6]
  have := tick_all (S := S) (U := U) (V := V) (ns := ns) hR hT htk
  exact ⟨⟨ln, w, n, nh, hR, this.1⟩, this.2⟩
def AllJ (T : Nat → TV) (n tk : Nat) (len : Int32) : Prop := ∀ t, t < n → TJ (T (t + 2)) tk len
theorem eachT_t (f : TV → TV) (T : Nat → TV) {n t : Nat} (ht : t < n) : eachT f T n (t + 2) = f (T (t + 2)) := by rw [eachT_get, if_pos (by omega)]
theorem upd_self (f : Nat → Int32) (i : Nat) : upd f i (f i) = f := by
  funext a; unfold upd; split
  · subst_vars; rfl
  · rfl
theorem see_val {x tk n ns : Nat} {S U V : Nat → Int32} {len : Int32} {T : Nat → TV} (hx : x < n) (hn : n ≤ 6) : rSee (nI x) 1 0 S U V ns len (nI tk) T n = .inl ((cTickN S U V ns len (nI (tk + 1)) (T (x + 2))).1 10) := by
  unfold rSee
  rw [isIn_lt (by omega) hx, if_pos rfl, if_pos (show isIn 0 0 2 = true by decide), if_pos (show isIn 1 1 400 = true by decide), if_pos rfl]
  unfold cSee0
  rw [setT_i, nI_clamp (show x < 2 ^ 31 by omega), show ((1 : Int32)).toNatClampNeg = 1 by decide]
  show Sum.inl ((cTickN S U V ns len (nI tk + nI 1) (upd (T (x + 2)).1 8 ((T (x + 2)).1 8), (T (x + 2)).2)).1 10) = _
  rw [upd_self, nI_add]
theorem see_T {x n ns : Nat} {S U V : Nat → Int32} {len tick : Int32} {T : Nat → TV} (t : Nat) : cSee (nI x) 1 0 S U V ns len tick T n (t + 2) = T (t + 2) := by
  unfold cSee
  rw [if_neg (by decide)]
  unfold cSee0
  exact setT_ne _ (by omega) _
theorem run_res {n ns : Nat} {S U V : Nat → Int32} {len tick : Int32} {T : Nat → TV} (h1 : 1 ≤ n) (hn : n ≤ 6) : rRun 1 S U V ns len tick T n = .inl (nI (cEnded (cRunT S U V ns len tick T n (1 : Int32).toNatClampNeg) n)) := by
  unfold rRun
  rw [if_pos (show isIn 1 1 500 = true by decide), if_neg (nI_ne0 h1 (by omega))]
theorem run_T {n ns tk t : Nat} {S U V : Nat → Int32} {len : Int32} {T : Nat → TV} (ht : t < n) : cRunT S U V ns len (nI tk) T n (1 : Int32).toNatClampNeg (t + 2) = cTickN S U V ns len (nI (tk + 1)) (T (t + 2)) := by
  rw [show ((1 : Int32)).toNatClampNeg = 1 by decide]
  show eachT (cTickN S U V ns len (nI tk + nI 0 + 1)) T n (t + 2) = _
  rw [eachT_t _ _ ht, nI_add, Nat.add_zero, nI_1]
theorem team_res {x w n : Nat} {T : Nat → TV} (hx : x < n) (hn : n ≤ 6) (hw : w < 12) : rTeam (nI x) (nI w) n T = .inl (cFact (T (x + 2)).1 (T (x + 2)).2.1 (cN (T (x + 2))) (nI w)) := by
  unfold rTeam
  rw [isIn_lt (by omega) hx, if_pos rfl, if_pos (show isIn (nI w) 0 11 = true from in_nI (a := 0) (b := 11) (Nat.zero_le _) (by omega) (by decide)), nI_clamp (by omega)]
theorem next_res {x w n ns : Nat} {S U V : Nat → Int32} {T : Nat → TV} (hx : x < n) (hn : n ≤ 6) (hw : w < 3) : rNext (nI x) (nI w) S U V ns n T = .inl (if nI w = 0 then cPull (T (x + 2)).1 else if nI w = 1 then cDragT S U V ns (T (x + 2)) else cWay (T (x + 2)).1 (cPull (T (x + 2)).1) (cDragT S U V ns (T (x + 2)))) := by
  unfold rNext
  rw [isIn_lt (by omega) hx, if_pos rfl, if_pos (show isIn (nI w) 0 2 = true from in_nI (a := 0) (b := 2) (Nat.zero_le _) (by omega) (by decide)), nI_clamp (by omega)]
  rfl
theorem count_res {w n : Nat} {T : Nat → TV} {KF : Nat → Int32} {tick : Int32} (hw : w < 6) : rCount (nI w) KF T n tick = .inl (cCount KF T n tick (nI w)) := by
  unfold rCount
  rw [if_pos (show isIn (nI w) 0 5 = true from in_nI (a := 0) (b := 5) (Nat.zero_le _) (by omega) (by decide))]
theorem ranked_res {x n : Nat} {T : Nat → TV} (hx : x < n) (hn : n ≤ 6) : rRanked (nI x) T n = .inl (cAtRank T n (nI x)) := by
  unfold rRanked
  rw [if_pos ⟨nI_pos (by omega), nI_lt hx (by omega)⟩]
theorem fronts_n {T : Nat → TV} {n tk : Nat} {len : Int32} (h : AllJ T n tk len) (htk : tk ≤ 120) : ∀ i, i ≤ n → ∃ s : Nat, cFronts T i = nI s ∧ s ≤ 1440 * i
  | 0, _ => ⟨0, rfl, Nat.le_refl _⟩
  | i + 1, hi => by
    obtain ⟨s, e, hs⟩ := fronts_n h htk i (by omega)
    obtain ⟨ln, w, n0, nh, hR, hF, ⟨⟨fr, h10, hfr⟩, -⟩, -⟩ := h i (by omega)
    refine ⟨s + fr, ?_, by omega⟩
    show cFronts T i + (T (i + 2)).1 10 = _
    rw [e, h10, nI_add]
def dqB (T T2 : Nat → TV) (t : Nat) : Bool := decide ((T2 (t + 2)).1 12 < (T (t + 2)).1 12)
theorem broke_n {T T2 : Nat → TV} {n tk : Nat} (h : ∀ t, t < n → ∃ p q : Nat, (T (t + 2)).1 14 = nI p ∧ (T2 (t + 2)).1 14 = nI q ∧ p + (if (T2 (t + 2)).1 12 < (T (t + 2)).1 12 then 1 else 0) ≤ q ∧ q ≤ tk + 1) : ∀ i, i ≤ n → ∃ P Q : Nat, cBroke T i = nI P ∧ cBroke T2 i = nI Q ∧ P + cnt (dqB T T2) i ≤ Q ∧ Q ≤ (tk + 1) * i
  | 0, _ => ⟨0, 0, rfl, rfl, Nat.le_refl _, Nat.zero_le _⟩
  | i + 1, hi => by
    obtain ⟨P, Q, e1, e2, h1, h2⟩ := broke_n h i (by omega)
    obtain ⟨p, q, g1, g2, g3, g4⟩ := h i (by omega)
    refine ⟨P + p, Q + q, ?_, ?_, ?_, ?_⟩
    · show cBroke T i + (T (i + 2)).1 14 = _
      rw [e1, g1, nI_add]
    · show cBroke T2 i + (T2 (i + 2)).1 14 = _
      rw [e2, g2, nI_add]
    · show P + p + (cnt (dqB T T2) i + if dqB T T2 i = true then 1 else 0) ≤ Q + q
      have e : (if dqB T T2 i = true then 1 else 0) = if (T2 (i + 2)).1 12 < (T (i + 2)).1 12 then 1 else 0 := by unfold dqB; simp
      rw [e]; omega
    · rw [Nat.mul_add, Nat.mul_one]; omega
theorem ended_n {T : Nat → TV} {n tk : Nat} {len : Int32} (h : AllJ T n tk len) (htk : tk ≤ 120) : cEnded T n = cnt (fun t => decide (¬ (T (t + 2)).1 16 < 0)) n := by
  refine cnt_cong (fun t ht => ?_)
  obtain ⟨ln, w, n0, nh, hR, hF, hV, hE, -⟩ := h t ht
  have := hE.e (by omega)
  cases hc : cE (T (t + 2)).1 with
  | true => exact (decide_eq_true (this.mp hc)).symm
  | false => exact (decide_eq_false (fun z => by rw [this.mpr z] at hc; cases hc)).symm
theorem num_tick {S U V : Nat → Int32} {ns : Nat} {len tk : Int32} {T : TV} : (cTickN S U V ns len tk T).1 0 = T.1 0 := cTick_of (by decide)
/-- the start -/
theorem team_ti {k len w nr pu st nh rope eff gap : Nat} {tl : Int32} (hl : 20 ≤ len ∧ len ≤ 80) (hw : 10 ≤ w ∧ w ≤ 99) (hr : 2 ≤ nr ∧ nr ≤ 8) (hp : 1 ≤ pu ∧ pu ≤ 9) (hs : 1 ≤ st ∧ st ≤ 20) (hh : 1 ≤ nh ∧ nh ≤ 3) (hro : 20 ≤ rope ∧ rope ≤ 400) (he : eff ≤ 10) (hg : 1 ≤ gap ∧ gap ≤ 40) (ht : 100 ≤ tl.toInt) : TJ (bTeam k len w nr pu st nh rope eff gap) 0 tl := by
  refine ⟨len, w, nr, nh, ⟨hl, hw, hr.2, hh.2⟩, ⟨rfl, rfl, rfl, rfl, pu, st, eff, gap, rfl, rfl, rfl, rfl, hp.2, hs.2, he, hg.1, hg.2⟩, ⟨⟨0, rfl, by omega⟩, ⟨1000, rfl, by decide⟩, ⟨rope, rfl, by omega, hro.2⟩, ⟨0, rfl, by decide⟩, ⟨0, rfl, by decide⟩⟩, Or.inl ⟨rfl, ?_⟩, ?_⟩
  · show (0 : Int32) < tl
    rw [Int32.lt_iff_toInt_lt, show (0 : Int32).toInt = 0 from by decide]; omega
  · have key : ∀ q, q < nr → -80 ≤ ((bTeam k len w nr pu st nh rope eff gap).2.1 q).toInt ∧ ((bTeam k len w nr pu st nh rope eff gap).2.1 q).toInt ≤ 0 := fun q hq => by
      have e : (bTeam k len w nr pu st nh rope eff gap).2.1 q = 0 - nI (q + 1) * nI len / nI (nr + 1) := if_pos hq
      have m1 : (q + 1) * len ≤ (nr + 1) * len := Nat.mul_le_mul_right _ (by omega)
      have m2 : (nr + 1) * len ≤ 9 * 80 := Nat.mul_le_mul (by omega) hl.2
      have m3 : (q + 1) * len / (nr + 1) ≤ len := Nat.div_le_of_le_mul m1
      rw [e, pk_mul, pk_div (by omega) (by omega) (by omega)]
      obtain ⟨z, hz⟩ : ∃ z, z = (q + 1) * len / (nr + 1) := ⟨_, rfl⟩
      rw [← hz] at m3 ⊢
      have hzT : (nI z).toInt = (z : Int) := nI_toInt (by omega)
      rw [i_sub (by decide) (by omega), hzT, show (0 : Int32).toInt = 0 from by decide]
      omega
    refine ⟨fun q hq => Or.inr ⟨(key q hq).1, by have := (key q hq).2; omega⟩, fun q hq e => ?_⟩
    have := key q hq
    rw [e, m9999] at this
    omega
