/-! The simulation: bounds behind the roll -/
theorem imax0_ge (x : Int32) : 0 ≤ (imax 0 x).toInt := by
  unfold imax
  by_cases h : (0 : Int32) < x
  · rw [if_pos h]
    rw [Int32.lt_iff_toInt_lt, show (0 : Int32).toInt = 0 from by decide] at h
    omega
  · rw [if_neg h, show (0 : Int32).toInt = 0 from by decide]
    omega
theorem mWay_rng (F P L : Nat → Int32) (n : Nat) (g : Nat → Int32) (ms : Nat) : ∃ j : Nat, j ≤ 12 ∧ mWay F P L n g ms = nI j := by
  have h0 : 0 ≤ (mWay F P L n g ms).toInt := imax0_ge _
  have h1 : ¬ (12 : Int32) < mWay F P L n g ms := by
    unfold mWay
    rw [← imin_imax (by decide)]
    unfold imin
    split
    · rename_i h; exact fun z => absurd (Int32.lt_trans h z) Int32.lt_irrefl
    · exact Int32.lt_irrefl
  obtain ⟨j, hj, e⟩ := nI_of (x := mWay F P L n g ms) (fun z => by rw [Int32.lt_iff_toInt_lt, show (0 : Int32).toInt = 0 from by decide] at z; omega)
  refine ⟨j, ?_, e⟩
  rw [e] at h1
  refine Nat.not_lt.mp fun z => h1 ?_
  show nI 12 < nI j
  exact (nI_ltI (by omega) (by omega)).mpr z
