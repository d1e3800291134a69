/-! THE SIMULATION: a team of the class beside its row in the reference -/
theorem imax_comm (x y : Int32) : imax x y = imax y x := by
  unfold imax
  by_cases h : x < y
  · rw [if_pos h, if_neg (fun z => absurd (Int32.lt_trans h z) Int32.lt_irrefl)]
  · by_cases h2 : y < x
    · rw [if_neg h, if_pos h2]
    · rw [if_neg h, if_neg h2]
      exact Int32.le_antisymm (Int32.not_lt.mp h2) (Int32.not_lt.mp h)
theorem imin_comm (x y : Int32) : imin x y = imin y x := by
  unfold imin
  by_cases h : y < x
  · rw [if_pos h, if_neg (fun z => absurd (Int32.lt_trans h z) Int32.lt_irrefl)]
  · by_cases h2 : x < y
    · rw [if_neg h, if_pos h2]
    · rw [if_neg h, if_neg h2]
      exact Int32.le_antisymm (Int32.not_lt.mp h) (Int32.not_lt.mp h2)
theorem imin_imax {a b : Int32} (hab : ¬ b < a) (x : Int32) : imin b (imax a x) = imax a (imin b x) := by
  have hab2 : a ≤ b := Int32.not_lt.mp hab
  unfold imin imax
  by_cases h1 : a < x
  · rw [if_pos h1]
    by_cases h2 : x < b
    · rw [if_pos h2, if_pos h1]
    · rw [if_neg h2]
      by_cases h3 : a < b
      · rw [if_pos h3]
      · rw [if_neg h3]
        exact Int32.le_antisymm (Int32.not_lt.mp h3) hab2
  · rw [if_neg h1]
    have h4 : x ≤ a := Int32.not_lt.mp h1
    by_cases h2 : a < b
    · rw [if_pos h2, if_pos (Int32.lt_of_le_of_lt h4 h2), if_neg h1]
    · have e : a = b := Int32.le_antisymm hab2 (Int32.not_lt.mp h2)
      subst e
      rw [if_neg h2]
      by_cases h5 : x < a
      · rw [if_pos h5, if_neg h1]
      · rw [if_neg h5, if_neg Int32.lt_irrefl]
/-- the ints of a team -/
def RelF (F M : Nat → Int32) : Prop := (F 1 = M 0) ∧ (F 2 = M 1) ∧ (F 3 = M 2) ∧ (F 4 = M 3) ∧ (F 5 = M 4) ∧ (F 6 = M 5) ∧ (F 7 = M 6) ∧ (F 8 = M 7) ∧ (F 9 = M 8) ∧ (F 10 = M 9) ∧ (F 11 = M 10) ∧ (F 12 = M 11) ∧ (F 13 = M 12) ∧ (F 15 = M 14) ∧ (F 16 = M 13)
theorem RelF.len {F M : Nat → Int32} (h : RelF F M) : F 1 = M 0 := h.1
theorem RelF.wt {F M : Nat → Int32} (h : RelF F M) : F 2 = M 1 := h.2.1
theorem RelF.rol {F M : Nat → Int32} (h : RelF F M) : F 3 = M 2 := h.2.2.1
theorem RelF.pul {F M : Nat → Int32} (h : RelF F M) : F 4 = M 3 := h.2.2.2.1
theorem RelF.str {F M : Nat → Int32} (h : RelF F M) : F 5 = M 4 := h.2.2.2.2.1
theorem RelF.run {F M : Nat → Int32} (h : RelF F M) : F 6 = M 5 := h.2.2.2.2.2.1
theorem RelF.who {F M : Nat → Int32} (h : RelF F M) : F 7 = M 6 := h.2.2.2.2.2.2.1
theorem RelF.eff {F M : Nat → Int32} (h : RelF F M) : F 8 = M 7 := h.2.2.2.2.2.2.2.1
theorem RelF.gap {F M : Nat → Int32} (h : RelF F M) : F 9 = M 8 := h.2.2.2.2.2.2.2.2.1
theorem RelF.fro {F M : Nat → Int32} (h : RelF F M) : F 10 = M 9 := h.2.2.2.2.2.2.2.2.2.1
theorem RelF.bre {F M : Nat → Int32} (h : RelF F M) : F 11 = M 10 := h.2.2.2.2.2.2.2.2.2.2.1
theorem RelF.rop {F M : Nat → Int32} (h : RelF F M) : F 12 = M 11 := h.2.2.2.2.2.2.2.2.2.2.2.1
theorem RelF.kno {F M : Nat → Int32} (h : RelF F M) : F 13 = M 12 := h.2.2.2.2.2.2.2.2.2.2.2.2.1
theorem RelF.way {F M : Nat → Int32} (h : RelF F M) : F 15 = M 14 := h.2.2.2.2.2.2.2.2.2.2.2.2.2.1
theorem RelF.fin {F M : Nat → Int32} (h : RelF F M) : F 16 = M 13 := h.2.2.2.2.2.2.2.2.2.2.2.2.2.2
theorem RelF.pull {F M : Nat → Int32} (h : RelF F M) : cPull F = mPull M := by unfold cPull mPull; rw [h.pul, h.str, h.eff, h.bre]
theorem cBr_eq (b x : Int32) : cBr b x = mBr b x := by unfold cBr mBr; exact imin_imax (by decide) _
theorem cDr_eq (w gs gf u : Int32) : cDr w gs gf u = mDr w gs gf u := by
  unfold cDr mDr cBare
  rw [imax_comm (imax 0 _ - _) (w / 10), imin_comm u 4]
theorem RelF.snaps {F M : Nat → Int32} (h : RelF F M) : (F 13 = 0 ∧ F 12 < cPull F) ↔ mSnaps M = true := by
  unfold mSnaps
  rw [decide_eq_true_iff, h.kno, h.rop, h.pull]
theorem RelF.snap {F M : Nat → Int32} (h : RelF F M) : RelF (cSnap F) (mSnap M) := by
  unfold cSnap mSnap
  by_cases q : F 13 = 0 ∧ F 12 < cPull F
  · rw [if_pos q, if_pos (h.snaps.mp q)]
    unfold cSnapF mSnapF cRope
    rw [h.rop]
    exact ⟨h.len, h.wt, h.rol, h.pul, h.str, h.run, h.who, h.eff, h.gap, h.fro, h.bre, rfl, rfl, h.way, h.fin⟩
  · rw [if_neg q, if_neg (fun z => q (h.snaps.mpr z))]
    exact h
theorem RelF.breathe {F M : Nat → Int32} (h : RelF F M) (x : Int32) : RelF (cT5 x F) (upd M 10 (mBr (M 10) x)) := by
  unfold cT5
  rw [cBr_eq, h.bre]
  exact ⟨h.len, h.wt, h.rol, h.pul, h.str, h.run, h.who, h.eff, h.gap, h.fro, rfl, h.rop, h.kno, h.way, h.fin⟩
theorem RelF.start {F M : Nat → Int32} (h : RelF F M) : RelF (cStartF F) (mStartF M) := by
  unfold cStartF mStartF
  rw [h.who]
  exact ⟨h.len, h.wt, h.rol, h.pul, h.str, h.run, h.who, h.eff, h.gap, rfl, rfl, rfl, rfl, rfl, rfl⟩
theorem i_sub {a b : Int32} (ha : -1000000000 ≤ a.toInt ∧ a.toInt ≤ 1000000000) (hb : -1000000000 ≤ b.toInt ∧ b.toInt ≤ 1000000000) : (a - b).toInt = a.toInt - b.toInt := by
  rw [Int32.toInt_sub]
  exact Int.bmod_eq_of_le (by omega) (by omega)
theorem i_add {a b : Int32} (ha : -1000000000 ≤ a.toInt ∧ a.toInt ≤ 1000000000) (hb : -1000000000 ≤ b.toInt ∧ b.toInt ≤ 1000000000) : (a + b).toInt = a.toInt + b.toInt := by
  rw [Int32.toInt_add]
  exact Int.bmod_eq_of_le (by omega) (by omega)
/-- bounds of a row -/
def Bd (M : Nat → Int32) (Q L : Nat → Int32) (n : Nat) : Prop := (20 ≤ (M 0).toInt ∧ (M 0).toInt ≤ 80) ∧ (1 ≤ (M 8).toInt ∧ (M 8).toInt ≤ 40) ∧ (0 ≤ (M 9).toInt ∧ (M 9).toInt ≤ 2011) ∧ (∀ k, k < n → mCar L (nI k) = false → -80 ≤ (Q k).toInt ∧ (Q k).toInt ≤ 2060)
theorem Bd.len {M : Nat → Int32} {Q L : Nat → Int32} {n : Nat} (h : Bd M Q L n) : 20 ≤ (M 0).toInt ∧ (M 0).toInt ≤ 80 := h.1
theorem Bd.gap {M : Nat → Int32} {Q L : Nat → Int32} {n : Nat} (h : Bd M Q L n) : 1 ≤ (M 8).toInt ∧ (M 8).toInt ≤ 40 := h.2.1
theorem Bd.fro {M : Nat → Int32} {Q L : Nat → Int32} {n : Nat} (h : Bd M Q L n) : 0 ≤ (M 9).toInt ∧ (M 9).toInt ≤ 2011 := h.2.2.1
theorem Bd.pla {M : Nat → Int32} {Q L : Nat → Int32} {n : Nat} (h : Bd M Q L n) : ∀ k, k < n → mCar L (nI k) = false → -80 ≤ (Q k).toInt ∧ (Q k).toInt ≤ 2060 := h.2.2.2
def RelT (T M : TV) (n : Nat) : Prop := (RelF T.1 M.1) ∧ (∀ k, k < n → T.2.1 k = if mCar M.2.2.1 (nI k) = true then -9999 else M.2.1 k) ∧ (∀ r, r < 3 → T.2.2.1 r = M.2.2.1 r) ∧ (∀ r, r < 3 → T.2.2.2 r = M.2.2.2 r)
theorem RelT.f {T M : TV} {n : Nat} (h : RelT T M n) : RelF T.1 M.1 := h.1
theorem RelT.p {T M : TV} {n : Nat} (h : RelT T M n) : ∀ k, k < n → T.2.1 k = if mCar M.2.2.1 (nI k) = true then -9999 else M.2.1 k := h.2.1
theorem RelT.l {T M : TV} {n : Nat} (h : RelT T M n) : ∀ r, r < 3 → T.2.2.1 r = M.2.2.1 r := h.2.2.1
theorem RelT.g {T M : TV} {n : Nat} (h : RelT T M n) : ∀ r, r < 3 → T.2.2.2 r = M.2.2.2 r := h.2.2.2
theorem side_eq {F M P Q L : Nat → Int32} {n k : Nat} (hf : RelF F M) (hp : P k = if mCar L (nI k) = true then -9999 else Q k) (hb : Bd M Q L n) (hk : k < n) : cSide F (P k) = mSide M Q L k := by
  unfold cSide mSide
  rw [hp]
  by_cases hc : mCar L (nI k) = true
  · rw [if_pos hc, if_pos hc, if_pos rfl]
  · have hc2 : mCar L (nI k) = false := by cases h : mCar L (nI k) with
      | true => exact absurd h hc
      | false => rfl
    have hq := hb.pla k hk hc2
    have h9 : ¬ Q k = -9999 := fun z => by
      rw [z, show (-9999 : Int32).toInt = -9999 from by decide] at hq; omega
    rw [if_neg hc, if_neg hc, if_neg h9, hf.fro, hf.len]
    have e := i_sub (a := M 9) (b := M 0) ⟨by have := hb.fro; omega, by have := hb.fro; omega⟩ ⟨by have := hb.len; omega, by have := hb.len; omega⟩
    by_cases h1 : M 9 < Q k
    · have h2 : ¬ Q k < M 9 - M 0 := fun z => by
        rw [Int32.lt_iff_toInt_lt] at z h1
        rw [e] at z
        have := hb.len
        omega
      rw [if_pos h1, if_neg h2, if_pos h1]
    · rw [if_neg h1, if_neg h1]
theorem lie_eq {T M : TV} {n : Nat} (h : RelT T M n) (hb : Bd M.1 M.2.1 M.2.2.1 n) (w : Int32) : cLie T.1 T.2.1 n w = mMany M.1 M.2.1 M.2.2.1 n w := by
  unfold cLie mMany
  exact cnt_cong (fun k hk => by rw [side_eq h.f (h.p k hk) hb hk])
