/-! THE RACE's WORLD: six cells of its own, and blocks of four: 0 the trial, 1 the rival, t + 2 the team t -/
def blk (cI : ClassId) (ad : Nat → Nat → Nat) (T : Nat → TV) (b : Nat) : va_W := [(ad b 0, oT (T b).1 (ad b 1) (ad b 2) (ad b 3)), (ad b 1, aI cI 8 (T b).2.1), (ad b 2, aI cI 3 (T b).2.2.1), (ad b 3, aI cI 3 (T b).2.2.2)]
def blks (cI : ClassId) (ad : Nat → Nat → Nat) (T : Nat → TV) : Nat → va_W
  | 0 => []
  | m + 1 => blks cI ad T m ++ blk cI ad T m
theorem blks_len (cI : ClassId) (ad : Nat → Nat → Nat) (T : Nat → TV) : ∀ m, (blks cI ad T m).length = 4 * m
  | 0 => rfl
  | m + 1 => by
    show (blks cI ad T m ++ blk cI ad T m).length = _
    rw [List.length_append, blks_len cI ad T m]
    show 4 * m + 4 = _
    omega
theorem blks_get (cI : ClassId) (ad : Nat → Nat → Nat) (T : Nat → TV) {b j : Nat} (hj : j < 4) : ∀ {m}, b < m → (blks cI ad T m)[4 * b + j]? = (blk cI ad T b)[j]?
  | 0, h => absurd h (Nat.not_lt_zero b)
  | m + 1, h => by
    show (blks cI ad T m ++ blk cI ad T m)[4 * b + j]? = _
    rcases Nat.lt_or_ge b m with q | q
    · rw [List.getElem?_append_left (by rw [blks_len]; omega)]
      exact blks_get cI ad T hj q
    · have e : b = m := by omega
      subst e
      rw [List.getElem?_append_right (by rw [blks_len]; omega), blks_len, show 4 * b + j - 4 * b = j by omega]
theorem blks_fst (cI : ClassId) (ad : Nat → Nat → Nat) (T T' : Nat → TV) : ∀ m, (blks cI ad T m).map Prod.fst = (blks cI ad T' m).map Prod.fst
  | 0 => rfl
  | m + 1 => by
    show (blks cI ad T m ++ blk cI ad T m).map Prod.fst = (blks cI ad T' m ++ blk cI ad T' m).map Prod.fst
    rw [List.map_append, List.map_append, blks_fst cI ad T T' m]
    rfl
theorem xb_fst {X X' : va_W} (h : X'.map Prod.fst = X.map Prod.fst) (cI : ClassId) (ad : Nat → Nat → Nat) (T T' : Nat → TV) (m : Nat) : (X' ++ blks cI ad T' m).map Prod.fst = (X ++ blks cI ad T m).map Prod.fst := by
  rw [List.map_append, List.map_append, h, blks_fst cI ad T' T m]
theorem xb_get (X : va_W) (cI : ClassId) (ad : Nat → Nat → Nat) (T : Nat → TV) {b j m : Nat} (hj : j < 4) (hb : b < m) : (X ++ blks cI ad T m)[X.length + 4 * b + j]? = (blk cI ad T b)[j]? := by
  rw [List.getElem?_append_right (by omega), show X.length + 4 * b + j - X.length = 4 * b + j by omega, blks_get cI ad T hj hb]
theorem blk_idx (X : va_W) (cI : ClassId) (ad : Nat → Nat → Nat) (T : Nat → TV) {b m : Nat} (hb : b < m) : [X.length + 4 * b + 0, X.length + 4 * b + 1, X.length + 4 * b + 2, X.length + 4 * b + 3].map (fun i => (X ++ blks cI ad T m)[i]?) = (blk cI ad T b).map some := by
  simp only [List.map_cons, List.map_nil]
  rw [xb_get X cI ad T (by decide) hb, xb_get X cI ad T (by decide) hb, xb_get X cI ad T (by decide) hb, xb_get X cI ad T (by decide) hb]
  rfl
theorem blk_ne (cI : ClassId) (ad : Nat → Nat → Nat) (T : Nat → TV) {b c : Nat} (h : c ≠ b) (N : TV) : blk cI ad (setT T b N) c = blk cI ad T c := by
  unfold blk; rw [setT_ne T h]
theorem blk_repl (X : va_W) (cI : ClassId) (ad : Nat → Nat → Nat) (T : Nat → TV) (N : TV) {b m : Nat} (hb : b < m) : repl (X ++ blks cI ad T m) [X.length + 4 * b + 0, X.length + 4 * b + 1, X.length + 4 * b + 2, X.length + 4 * b + 3] (blk cI ad (setT T b N) b) = X ++ blks cI ad (setT T b N) m := by
  apply List.ext_getElem?
  intro i
  show (List.set (List.set (List.set (List.set (X ++ blks cI ad T m) (X.length + 4 * b + 0) _) (X.length + 4 * b + 1) _) (X.length + 4 * b + 2) _) (X.length + 4 * b + 3) _)[i]? = _
  have hl : (X ++ blks cI ad T m).length = X.length + 4 * m := by rw [List.length_append, blks_len]
  rcases Nat.lt_or_ge i X.length with q | q
  · rw [List.getElem?_set_ne (by omega), List.getElem?_set_ne (by omega), List.getElem?_set_ne (by omega), List.getElem?_set_ne (by omega), List.getElem?_append_left q, List.getElem?_append_left q]
  · rcases Nat.lt_or_ge i (X.length + 4 * m) with r | r
    · obtain ⟨c, j, hj, rfl⟩ : ∃ c j : Nat, j < 4 ∧ i = X.length + 4 * c + j := ⟨(i - X.length) / 4, (i - X.length) % 4, Nat.mod_lt _ (by decide), by omega⟩
      have hc : c < m := by omega
      rw [xb_get X cI ad (setT T b N) hj hc]
      by_cases e : c = b
      · subst e
        rcases (show j = 0 ∨ j = 1 ∨ j = 2 ∨ j = 3 by omega) with z | z | z | z <;> subst z
        · rw [List.getElem?_set_ne (by omega), List.getElem?_set_ne (by omega), List.getElem?_set_ne (by omega), List.getElem?_set_self (by omega)]; rfl
        · rw [List.getElem?_set_ne (by omega), List.getElem?_set_ne (by omega), List.getElem?_set_self (by rw [List.length_set]; omega)]; rfl
        · rw [List.getElem?_set_ne (by omega), List.getElem?_set_self (by rw [List.length_set, List.length_set]; omega)]; rfl
        · rw [List.getElem?_set_self (by rw [List.length_set, List.length_set, List.length_set]; omega)]; rfl
      · rw [List.getElem?_set_ne (by omega), List.getElem?_set_ne (by omega), List.getElem?_set_ne (by omega), List.getElem?_set_ne (by omega), xb_get X cI ad T hj hc, blk_ne cI ad T e]
    · rw [List.getElem?_eq_none (by rw [List.length_set, List.length_set, List.length_set, List.length_set]; omega), List.getElem?_eq_none (by rw [List.length_append, blks_len]; omega)]
/-- the first cell of a block is written -/
theorem blk_set0 (X : va_W) (cI : ClassId) (ad : Nat → Nat → Nat) (T : Nat → TV) (F : Nat → Int32) {b m : Nat} (hb : b < m) : (X ++ blks cI ad T m).set (X.length + 4 * b + 0) (ad b 0, oT F (ad b 1) (ad b 2) (ad b 3)) = X ++ blks cI ad (setT T b (F, (T b).2)) m := by
  rw [← blk_repl X cI ad T (F, (T b).2) hb]
  have h1 := blk_idx X cI ad T hb
  simp only [List.map_cons, List.map_nil, blk, List.cons.injEq, and_true] at h1
  have e : blk cI ad (setT T b (F, (T b).2)) b = [(ad b 0, oT F (ad b 1) (ad b 2) (ad b 3)), (ad b 1, aI cI 8 (T b).2.1), (ad b 2, aI cI 3 (T b).2.2.1), (ad b 3, aI cI 3 (T b).2.2.2)] := by unfold blk; rw [setT_i]
  rw [e]
  show _ = ((((X ++ blks cI ad T m).set (X.length + 4 * b + 0) _).set (X.length + 4 * b + 1) _).set (X.length + 4 * b + 2) _).set (X.length + 4 * b + 3) _
  apply List.ext_getElem?
  intro i
  have hl : (X ++ blks cI ad T m).length = X.length + 4 * m := by rw [List.length_append, blks_len]
  by_cases z3 : i = X.length + 4 * b + 3
  · subst z3; rw [List.getElem?_set_self (by rw [List.length_set, List.length_set, List.length_set]; omega), List.getElem?_set_ne (by omega)]; exact h1.2.2.2
  · rw [List.getElem?_set_ne (l := List.set _ (X.length + 4 * b + 2) _) (Ne.symm z3)]
    by_cases z2 : i = X.length + 4 * b + 2
    · subst z2; rw [List.getElem?_set_self (by rw [List.length_set, List.length_set]; omega), List.getElem?_set_ne (by omega)]; exact h1.2.2.1
    · rw [List.getElem?_set_ne (l := List.set _ (X.length + 4 * b + 1) _) (Ne.symm z2)]
      by_cases z1 : i = X.length + 4 * b + 1
      · subst z1; rw [List.getElem?_set_self (by rw [List.length_set]; omega), List.getElem?_set_ne (by omega)]; exact h1.2.1
      · rw [List.getElem?_set_ne (l := List.set _ (X.length + 4 * b + 0) _) (Ne.symm z1)]
theorem blk_P {D : va_G} {cl : List vw_C} {X : va_W} {cI : ClassId} {ad : Nat → Nat → Nat} {T : Nat → TV} {m b : Nat} {H : Heap} (hP : va_P D cl (X ++ blks cI ad T m) H) (hb : b < m) : va_P D cl (blk cI ad T b) H := sp_pick hP _ (blk_idx X cI ad T hb)
theorem xb_P {D : va_G} {cl : List vw_C} {X B : va_W} {H : Heap} (hP : va_P D cl (X ++ B) H) : va_P D cl X H := by
  intro k q hq
  exact hP k q (by rw [List.getElem?_append_left (List.getElem?_eq_some_iff.mp hq).1]; exact hq)
/-- the references of the teams' row -/
def tq (ad : Nat → Nat → Nat) (n : Nat) : Nat → Option Nat := fun t => if t < n then some (ad (t + 2) 0) else none
def xW (cI cT : ClassId) (r tr k1 k2 k3 ts : Nat) (ad : Nat → Nat → Nat) (n : Nat) (tick : Int32) (KF S U V : Nat → Int32) : va_W :=
  [(r, oR tr ts (ad 0 0) (ad 1 0) (nI n) tick), (tr, oK KF k1 k2 k3), (k1, aI cI 12 S), (k2, aI cI 12 U), (k3, aI cI 12 V), (ts, aQ cT 6 (tq ad n))]
/-- apart: the blocks' cells and the others -/
def RD (xa : List Nat) (ad : Nat → Nat → Nat) (m : Nat) : Prop := xa.Nodup ∧ (∀ a ∈ xa, ∀ b j, b < m → j < 4 → a ≠ ad b j) ∧ ∀ b j c k, b < m → j < 4 → c < m → k < 4 → ad b j = ad c k → b = c ∧ j = k
theorem blks_mem {cI : ClassId} {ad : Nat → Nat → Nat} {T : Nat → TV} {m : Nat} {a : Nat} (h : a ∈ (blks cI ad T m).map Prod.fst) : ∃ b j, b < m ∧ j < 4 ∧ a = ad b j := by
  induction m with
  | zero => cases h
  | succ m ih =>
    rw [show (blks cI ad T (m + 1)).map Prod.fst = (blks cI ad T m).map Prod.fst ++ (blk cI ad T m).map Prod.fst from List.map_append] at h
    rcases List.mem_append.mp h with q | q
    · obtain ⟨b, j, h1, h2, h3⟩ := ih q
      exact ⟨b, j, by omega, h2, h3⟩
    · have q2 : a ∈ [ad m 0, ad m 1, ad m 2, ad m 3] := q
      simp only [List.mem_cons, List.not_mem_nil, or_false] at q2
      rcases q2 with e | e | e | e
      · exact ⟨m, 0, by omega, by decide, e⟩
      · exact ⟨m, 1, by omega, by decide, e⟩
      · exact ⟨m, 2, by omega, by decide, e⟩
      · exact ⟨m, 3, by omega, by decide, e⟩
theorem mem_blks (cI : ClassId) (ad : Nat → Nat → Nat) (T : Nat → TV) {m b j : Nat} (hb : b < m) (hj : j < 4) : ad b j ∈ (blks cI ad T m).map Prod.fst := by
  have h := blks_get cI ad T (b := b) (j := j) hj hb
  rcases (show j = 0 ∨ j = 1 ∨ j = 2 ∨ j = 3 by omega) with z | z | z | z <;> subst z <;> exact List.mem_map.mpr ⟨_, List.mem_of_getElem? (h.trans rfl), rfl⟩
theorem RD.blksN {xa : List Nat} {ad : Nat → Nat → Nat} {m : Nat} (h : RD xa ad m) (cI : ClassId) (T : Nat → TV) : ∀ k, k ≤ m → ((blks cI ad T k).map Prod.fst).Nodup
  | 0, _ => List.nodup_nil
  | k + 1, hk => by
    rw [show (blks cI ad T (k + 1)).map Prod.fst = (blks cI ad T k).map Prod.fst ++ [ad k 0, ad k 1, ad k 2, ad k 3] from List.map_append]
    refine List.nodup_append.mpr ⟨h.blksN cI T k (by omega), ?_, ?_⟩
    · have e : ∀ i j, i < 4 → j < 4 → i ≠ j → ad k i ≠ ad k j := fun i j hi hj hij z => hij (h.2.2 k i k j (by omega) hi (by omega) hj z).2
      simp only [List.nodup_cons, List.mem_cons, List.not_mem_nil, or_false, not_or, not_false_eq_true, List.nodup_nil, and_true]
      exact ⟨⟨e 0 1 (by decide) (by decide) (by decide), e 0 2 (by decide) (by decide) (by decide), e 0 3 (by decide) (by decide) (by decide)⟩, ⟨e 1 2 (by decide) (by decide) (by decide), e 1 3 (by decide) (by decide) (by decide)⟩, e 2 3 (by decide) (by decide) (by decide)⟩
    · intro a ha b hb z
      subst z
      obtain ⟨c, j, h1, h2, h3⟩ := blks_mem ha
      simp only [List.mem_cons, List.not_mem_nil, or_false] at hb
      have : ∃ i, i < 4 ∧ a = ad k i := by
        rcases hb with e | e | e | e
        · exact ⟨0, by decide, e⟩
        · exact ⟨1, by decide, e⟩
        · exact ⟨2, by decide, e⟩
        · exact ⟨3, by decide, e⟩
      obtain ⟨i, hi, e⟩ := this
      have := (h.2.2 c j k i (by omega) h2 (by omega) hi (h3.symm.trans e)).1
      omega
theorem RD.N {X : va_W} {ad : Nat → Nat → Nat} {m : Nat} (h : RD (X.map Prod.fst) ad m) (cI : ClassId) (T : Nat → TV) : ((X ++ blks cI ad T m).map Prod.fst).Nodup := by
  rw [List.map_append]
  refine List.nodup_append.mpr ⟨h.1, h.blksN cI T m (Nat.le_refl m), fun a ha b hb z => ?_⟩
  subst z
  obtain ⟨c, j, h1, h2, h3⟩ := blks_mem hb
  exact h.2.1 a ha c j h1 h2 h3
