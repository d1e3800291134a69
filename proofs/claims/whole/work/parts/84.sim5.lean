/-! The simulation: a runner -/
/-- no two runners hold the same roller; what is held is one of the n -/
def HoldD (L : Nat → Int32) (n : Nat) : Prop := (∀ r, r < 3 → (L r = -1 ∨ ∃ j : Nat, j < n ∧ L r = nI j)) ∧ ∀ r q, r < 3 → q < 3 → ¬ r = q → ¬ L r = -1 → ¬ L r = L q
theorem nI_ne_m1 {j : Nat} (hj : j < 1000) : ¬ nI j = -1 := fun z => absurd (congrArg Int32.toInt z) (by rw [nI_toInt (by omega), show (-1 : Int32).toInt = -1 from by decide]; omega)
theorem nI_inj' {i j : Nat} (hi : i < 1000) (hj : j < 1000) (h : nI i = nI j) : i = j := by
  have := congrArg Int32.toNatClampNeg h
  rw [nI_clamp (by omega), nI_clamp (by omega)] at this
  exact this
theorem mCar_iff {L : Nat → Int32} {k : Int32} : mCar L k = true ↔ ∃ r, r < 3 ∧ L r = k := by
  constructor
  · intro h
    unfold mCar at h
    rcases of_decide_eq_true h with q | q | q
    · exact ⟨0, by decide, q⟩
    · exact ⟨1, by decide, q⟩
    · exact ⟨2, by decide, q⟩
  · rintro ⟨r, h1, h2⟩
    exact mCar_yes h1 h2
/-- a runner takes a roller up -/
theorem take_p {P Q L : Nat → Int32} {n r j : Nat} (hn : n ≤ 8) (hr : r < 3) (hj : j < n) (hL : L r = -1) (hp : ∀ k, k < n → P k = if mCar L (nI k) = true then -9999 else Q k) : ∀ k, k < n → upd P j (-9999) k = if mCar (upd L r (nI j)) (nI k) = true then -9999 else Q k := by
  intro k hk
  by_cases e : k = j
  · subst e
    rw [if_pos (mCar_yes hr (by rw [pk_us]))]
    simp [upd]
  · rw [upd_ne e, hp k hk]
    have hiff : mCar (upd L r (nI j)) (nI k) = true ↔ mCar L (nI k) = true := by
      rw [mCar_iff, mCar_iff]
      constructor
      · rintro ⟨q, h1, h2⟩
        by_cases e2 : q = r
        · subst e2
          rw [pk_us] at h2
          exact absurd (nI_inj' (by omega) (by omega) h2).symm e
        · exact ⟨q, h1, by rw [pk_un e2] at h2; exact h2⟩
      · rintro ⟨q, h1, h2⟩
        have e2 : ¬ q = r := fun z => by
          subst z
          rw [hL] at h2
          exact absurd h2.symm (nI_ne_m1 (by omega))
        exact ⟨q, h1, by rw [pk_un e2]; exact h2⟩
    by_cases hc : mCar L (nI k) = true
    · rw [if_pos hc, if_pos (hiff.mpr hc)]
    · rw [if_neg hc, if_neg (fun z => hc (hiff.mp z))]
/-- a runner lays its roller down -/
theorem lay_p {P Q L : Nat → Int32} {n r j : Nat} {v : Int32} (hn : n ≤ 8) (hr : r < 3) (hj : j < n) (hL : L r = nI j) (hd : ∀ q, q < 3 → ¬ r = q → ¬ L r = L q) (hp : ∀ k, k < n → P k = if mCar L (nI k) = true then -9999 else Q k) : ∀ k, k < n → upd P j v k = if mCar (upd L r (-1)) (nI k) = true then -9999 else upd Q j v k := by
  intro k hk
  by_cases e : k = j
  · subst e
    have hno : ¬ mCar (upd L r (-1)) (nI k) = true := fun z => by
      obtain ⟨q, h1, h2⟩ := mCar_iff.mp z
      by_cases e2 : q = r
      · subst e2
        rw [pk_us] at h2
        exact absurd h2.symm (nI_ne_m1 (by omega))
      · rw [pk_un e2] at h2
        exact hd q h1 (fun z => e2 z.symm) (hL.trans h2.symm)
    rw [if_neg hno]
    simp [upd]
  · rw [upd_ne e, upd_ne e, hp k hk]
    have hiff : mCar (upd L r (-1)) (nI k) = true ↔ mCar L (nI k) = true := by
      rw [mCar_iff, mCar_iff]
      constructor
      · rintro ⟨q, h1, h2⟩
        by_cases e2 : q = r
        · subst e2
          rw [pk_us] at h2
          exact absurd h2.symm (nI_ne_m1 (by omega))
        · exact ⟨q, h1, by rw [pk_un e2] at h2; exact h2⟩
      · rintro ⟨q, h1, h2⟩
        have e2 : ¬ q = r := fun z => by
          subst z
          rw [hL] at h2
          exact e (nI_inj' (by omega) (by omega) h2).symm
        exact ⟨q, h1, by rw [pk_un e2]; exact h2⟩
    by_cases hc : mCar L (nI k) = true
    · rw [if_pos hc, if_pos (hiff.mpr hc)]
    · rw [if_neg hc, if_neg (fun z => hc (hiff.mp z))]
