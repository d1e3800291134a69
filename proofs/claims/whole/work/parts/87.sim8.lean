/-! The simulation: bounds behind the roll -/
theorem imax0_ge (x : Int32) : 0 ≤ (imax 0 x).toInt := by
  unfold imax
  by_cases h : (0 : Int32) < x
  · rw [if_pos h]
    rw [Int32.lt_iff_toInt_lt, show (0 : Int32).toInt = 0 from by decide] at h
    omega
  · rw [if_neg h, show (0 : Int32).toInt = 0 from by decide]
    omega
theorem mWay_rng (F P L : Nat → Int32) (n : Nat) (g : Nat → Int32) (ms : Nat) : ∃ j : Nat, j ≤ 12 ∧ mWay F P L n g ms = nI j := by
  have h0 : 0 ≤ (mWay F P L n g ms).toInt := imax0_ge _
  have h1 : ¬ (12 : Int32) < mWay F P L n g ms := by
    unfold mWay
    rw [← imin_imax (by decide)]
    unfold imin
    split
    · rename_i h; exact fun z => absurd (Int32.lt_trans h z) Int32.lt_irrefl
    · exact Int32.lt_irrefl
  obtain ⟨j, hj, e⟩ := nI_of (x := mWay F P L n g ms) (fun z => by rw [Int32.lt_iff_toInt_lt, show (0 : Int32).toInt = 0 from by decide] at z; omega)
  refine ⟨j, ?_, e⟩
  rw [e] at h1
  refine Nat.not_lt.mp fun z => h1 ?_
  show nI 12 < nI j
  exact (nI_ltI (by omega) (by omega)).mpr z
theorem nI_half : ∀ j, j < 13 → nI j / 2 = nI (j / 2) := by decide +kernel
/-- bounds behind the roll -/
theorem roll_bd {M : TV} {n ms : Nat} {g : Nat → Int32} (hb : Bd M.1 M.2.1 M.2.2.1 n) (hf : (M.1 9).toInt < 2000) : Bd (mRoll n g ms M).1 (mRoll n g ms M).2.1 (mRoll n g ms M).2.2.1 n := by
  obtain ⟨j, hj, e⟩ := mWay_rng M.1 M.2.1 M.2.2.1 n g ms
  unfold mRoll
  rw [e]
  have hw : (nI j).toInt = (j : Int) := nI_toInt (by omega)
  have hfr := hb.fro
  have e9 := i_add (a := M.1 9) (b := nI j) ⟨by omega, by omega⟩ ⟨by omega, by omega⟩
  refine ⟨hb.len, hb.gap, ?_, fun k hk hc => ?_⟩
  · show 0 ≤ (M.1 9 + nI j).toInt ∧ (M.1 9 + nI j).toInt ≤ 2011
    rw [e9, hw]; omega
  · have hp := hb.pla k hk hc
    show -80 ≤ (mRollP M.1 M.2.1 M.2.2.1 (nI j) n k).toInt ∧ (mRollP M.1 M.2.1 M.2.2.1 (nI j) n k).toInt ≤ 2060
    unfold mRollP
    by_cases c : k < n ∧ mSide M.1 M.2.1 M.2.2.1 k = 0
    · rw [if_pos c, nI_half j (by omega)]
      have h2 : (nI (j / 2)).toInt = ((j / 2 : Nat) : Int) := nI_toInt (by omega)
      have hle : ¬ M.1 9 < M.2.1 k := fun z => by
        have c2 := c.2
        unfold mSide at c2
        rw [if_neg (by rw [hc]; decide), if_pos z] at c2
        exact absurd c2 (by decide)
      have hle2 : (M.2.1 k).toInt ≤ (M.1 9).toInt := by
        rw [Int32.lt_iff_toInt_lt] at hle; omega
      rw [i_add ⟨by omega, by omega⟩ ⟨by omega, by omega⟩, h2]
      omega
    · rw [if_neg c]; exact hp
