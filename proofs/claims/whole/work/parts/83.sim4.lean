/-! The simulation: both find the same roller -/
theorem not_car {F P L : Nat → Int32} {k : Nat} {w : Int32} (hw : ¬ w = 3) (h : mSide F P L k = w) : ¬ mCar L (nI k) = true := fun z => by
  unfold mSide at h
  rw [if_pos z] at h
  exact hw h.symm
theorem lb_eq {T M : TV} {n : Nat} (hn : n ≤ 8) (h : RelT T M n) (hb : Bd M.1 M.2.1 M.2.2.1 n) : (cLB T.1 T.2.1 n).1 = mFd M.1 M.2.1 M.2.2.1 n (-1) := by
  have hs : ∀ k, k < n → cSide T.1 (T.2.1 k) = mSide M.1 M.2.1 M.2.2.1 k := fun k hk => side_eq h.f (h.p k hk) hb hk
  have hv : ∀ k, k < n → mSide M.1 M.2.1 M.2.2.1 k = 1 → T.2.1 k = M.2.1 k := fun k hk h1 => by rw [h.p k hk, if_neg (not_car (by decide) h1)]
  have hm := mFd_spec (F := M.1) (P := M.2.1) (L := M.2.2.1) hn n (-1) (Nat.le_refl n) (Or.inl ⟨rfl, fun i h1 h2 => absurd h2 (by omega)⟩)
  rcases cLB_spec T.1 T.2.1 n with q | ⟨j, q1, q2⟩
  · rcases hm with ⟨e, _⟩ | ⟨j, _, _, h2, h3, _⟩
    · rw [q.1, e]
    · exact absurd ((hs j h2).trans h3) (q.2.2 j h2)
  · have hB : Best (fun i => mSide M.1 M.2.1 M.2.2.1 i = 1) M.2.1 n j := by
      have hj : mSide M.1 M.2.1 M.2.2.1 j = 1 := (hs j q2.1).symm.trans q2.2.1
      refine ⟨q2.1, hj, fun i hi hB => ?_⟩
      have h9 := q2.2.2 i hi ((hs i hi).trans hB)
      rw [hv j q2.1 hj, hv i hi hB] at h9
      exact h9
    rcases hm with ⟨_, h2⟩ | ⟨k, e, _, h2, h3, h4⟩
    · exact absurd hB.2.1 (h2 j (Nat.zero_le j) hB.1)
    · have hB2 : Best (fun i => mSide M.1 M.2.1 M.2.2.1 i = 1) M.2.1 n k := ⟨h2, h3, fun i hi hB => h4 i (Nat.zero_le i) hi hB⟩
      rw [q1, e, hB.uniq hB2]
