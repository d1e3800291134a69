/-! The simulation: the roller that lies farthest behind -/
def Best (B : Nat → Prop) (Q : Nat → Int32) (n j : Nat) : Prop := j < n ∧ B j ∧ ∀ i, i < n → B i → Q j ≤ Q i ∧ (i < j → Q j < Q i)
theorem Best.uniq {B : Nat → Prop} {Q : Nat → Int32} {n j k : Nat} (h : Best B Q n j) (h2 : Best B Q n k) : j = k := by
  rcases Nat.lt_trichotomy j k with z | z | z
  · exact absurd ((h2.2.2 j h.1 h.2.1).2 z) (Int32.not_lt.mpr (h.2.2 k h2.1 h2.2.1).1)
  · exact z
  · exact absurd ((h.2.2 k h2.1 h2.2.1).2 z) (Int32.not_lt.mpr (h2.2.2 j h.1 h.2.1).1)
theorem cSide_1 {F : Nat → Int32} {x : Int32} (h : cSide F x = 1) : x < F 10 - F 1 := by
  unfold cSide at h
  split at h
  · exact absurd h (by decide)
  · split at h
    · assumption
    · split at h <;> exact absurd h (by decide)
theorem cLB_spec (F P : Nat → Int32) : ∀ n, ((cLB F P n).1 = -1 ∧ (cLB F P n).2 = F 10 - F 1 ∧ ∀ i, i < n → ¬ cSide F (P i) = 1) ∨ ∃ j, cLB F P n = (nI j, P j) ∧ Best (fun i => cSide F (P i) = 1) P n j
  | 0 => Or.inl ⟨rfl, rfl, fun i h => absurd h (Nat.not_lt_zero i)⟩
  | n + 1 => by
    unfold cLB
    by_cases c : cSide F (P n) = 1 ∧ P n < (cLB F P n).2
    · rw [if_pos c]
      refine Or.inr ⟨n, rfl, Nat.lt_succ_self n, c.1, fun i hi hB => ?_⟩
      rcases Nat.lt_or_ge i n with z | z
      · rcases cLB_spec F P n with q | ⟨j, q1, q2⟩
        · exact absurd hB (q.2.2 i z)
        · have e : (cLB F P n).2 = P j := by rw [q1]
          have h1 : P n < P j := by rw [← e]; exact c.2
          have h2 := (q2.2.2 i z hB).1
          have h3 := Int32.lt_of_lt_of_le h1 h2
          exact ⟨Int32.le_of_lt h3, fun _ => h3⟩
      · have e : i = n := by omega
        subst e
        exact ⟨Int32.le_refl _, fun z => absurd z (Nat.lt_irrefl _)⟩
    · rw [if_neg c]
      rcases cLB_spec F P n with q | ⟨j, q1, q2⟩
      · refine Or.inl ⟨q.1, q.2.1, fun i hi hB => ?_⟩
        rcases Nat.lt_or_ge i n with z | z
        · exact q.2.2 i z hB
        · have e : i = n := by omega
          subst e
          exact c ⟨hB, by rw [q.2.1]; exact cSide_1 hB⟩
      · refine Or.inr ⟨j, q1, Nat.lt_succ_of_lt q2.1, q2.2.1, fun i hi hB => ?_⟩
        rcases Nat.lt_or_ge i n with z | z
        · exact q2.2.2 i z hB
        · have e : i = n := by omega
          subst e
          have e2 : (cLB F P i).2 = P j := by rw [q1]
          have h1 : ¬ P i < P j := fun z => c ⟨hB, by rw [e2]; exact z⟩
          exact ⟨Int32.not_lt.mp h1, fun z => absurd z (by have := q2.1; omega)⟩
/-- from k rollers on, f is the best so far -/
def BestF (B : Nat → Prop) (Q : Nat → Int32) (k n : Nat) (f : Int32) : Prop :=
  (f = -1 ∧ ∀ i, k ≤ i → i < n → ¬ B i) ∨ ∃ j, f = nI j ∧ k ≤ j ∧ j < n ∧ B j ∧ ∀ i, k ≤ i → i < n → B i → Q j ≤ Q i ∧ (i < j → Q j < Q i)
theorem mFd_spec {F P L : Nat → Int32} {n : Nat} (hn : n ≤ 8) : ∀ (k : Nat) (f : Int32), k ≤ n → BestF (fun i => mSide F P L i = 1) P k n f → BestF (fun i => mSide F P L i = 1) P 0 n (mFd F P L k f)
  | 0, f, _, h => h
  | k + 1, f, hk, h => by
    unfold mFd
    refine mFd_spec hn k _ (by omega) ?_
    by_cases c : mSide F P L k = 1 ∧ (f = -1 ∨ ¬ P f.toNatClampNeg < P k)
    · rw [if_pos c]
      refine Or.inr ⟨k, rfl, Nat.le_refl k, by omega, c.1, fun i h1 h2 hB => ?_⟩
      rcases Nat.lt_or_ge k i with z | z
      · rcases h with ⟨q, q2⟩ | ⟨j, q, q1, q2, q3, q4⟩
        · exact absurd hB (q2 i (by omega) h2)
        · subst q
          have h3 := (q4 i (by omega) h2 hB).1
          rcases c.2 with c2 | c2
          · exact absurd c2 (fun z => absurd (congrArg Int32.toInt z) (by rw [nI_toInt (by omega), show (-1 : Int32).toInt = -1 from by decide]; omega))
          · rw [nI_clamp (by omega)] at c2
            exact ⟨Int32.le_trans (Int32.not_lt.mp c2) h3, fun z => absurd z (by omega)⟩
      · have e : i = k := by omega
        subst e
        exact ⟨Int32.le_refl _, fun z => absurd z (Nat.lt_irrefl _)⟩
    · rw [if_neg c]
      rcases h with ⟨q, q2⟩ | ⟨j, q, q1, q2, q3, q4⟩
      · refine Or.inl ⟨q, fun i h1 h2 hB => ?_⟩
        rcases Nat.lt_or_ge k i with z | z
        · exact q2 i (by omega) h2 hB
        · have e : i = k := by omega
          subst e
          exact c ⟨hB, Or.inl q⟩
      · subst q
        refine Or.inr ⟨j, rfl, by omega, q2, q3, fun i h1 h2 hB => ?_⟩
        rcases Nat.lt_or_ge k i with z | z
        · exact q4 i (by omega) h2 hB
        · have e : i = k := by omega
          subst e
          have h3 : P j < P i := by
            refine Classical.byContradiction fun z => c ⟨hB, Or.inr ?_⟩
            rw [nI_clamp (by omega)]
            exact z
          exact ⟨Int32.le_of_lt h3, fun _ => h3⟩
