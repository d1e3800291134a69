/-! THE REFERENCE'S CALLS, as functions of its ints MF, its ground g and its table tv -/
def ft (q : Nat → Bool) : Nat → Nat
  | 0 => 0
  | i + 1 => if ft q i < i then ft q i else if q i = true then i else i + 1
theorem ft_le (q : Nat → Bool) : ∀ i, ft q i ≤ i
  | 0 => Nat.le_refl 0
  | i + 1 => by have := ft_le q i; unfold ft; split <;> (try split) <;> omega
theorem ft_no (q : Nat → Bool) : ∀ i k, k < ft q i → q k = false
  | 0, k, h => absurd h (Nat.not_lt_zero k)
  | i + 1, k, h => by
    have ih := ft_no q i
    have hl := ft_le q i
    unfold ft at h
    split at h
    · exact ih k h
    · split at h
      · exact ih k (by omega)
      · rcases Nat.lt_or_ge k i with z | z
        · exact ih k (by omega)
        · have : k = i := by omega
          subst this
          simp_all
theorem ft_yes (q : Nat → Bool) : ∀ i, ft q i < i → q (ft q i) = true
  | 0, h => absurd h (Nat.not_lt_zero _)
  | i + 1, h => by
    have ih := ft_yes q i
    unfold ft at h ⊢
    split
    · exact ih (by assumption)
    · split
      · assumption
      · rename_i h1 h2
        rw [if_neg h1, if_neg h2] at h
        omega
theorem ft_lt {q : Nat → Bool} {n j : Nat} (hj : j < n) (h : q j = true) : ft q n < n := by
  rcases Nat.lt_or_ge (ft q n) n with z | z
  · exact z
  · have := ft_no q n j (by omega)
    rw [h] at this; cases this
theorem ft_cong {q r : Nat → Bool} {n : Nat} (h : ∀ k, k < n → q k = r k) : ft q n = ft r n := by
  induction n with
  | zero => rfl
  | succ n ih =>
    unfold ft
    rw [ih (fun k hk => h k (by omega)), h n (by omega)]
theorem cnt_cong {q r : Nat → Bool} : ∀ {n : Nat}, (∀ k, k < n → q k = r k) → cnt q n = cnt r n
  | 0, _ => rfl
  | n + 1, h => by unfold cnt; rw [cnt_cong (fun k hk => h k (by omega)), h n (by omega)]
theorem isIn_nat {x : Int32} {b : Nat} (hb : b < 1000000) (h : isIn x 0 (nI b - 1) = true) : ∃ i : Nat, i < b ∧ x = nI i := by
  have h2 := of_decide_eq_true h
  rcases pk_ix x (n := b) (by omega) with q | q | q
  · exact absurd q h2.1
  · refine absurd ?_ h2.2
    rw [Int32.lt_iff_toInt_lt]
    rw [Int32.le_iff_toInt_le, nI_toInt (by omega)] at q
    have e : (nI b - 1).toInt = (b : Int) - 1 := by
      have := pk_sub_toInt (a := b) (b := 1) (by omega) (by decide)
      exact this
    rw [e]; omega
  · exact q
theorem isIn_rng {x : Int32} {a b : Nat} (hb : b < 1000000) (hab : a ≤ b) (h : isIn x (nI a) (nI b) = true) : ∃ i : Nat, a ≤ i ∧ i ≤ b ∧ x = nI i := by
  have h2 := of_decide_eq_true h
  rcases pk_ix x (n := b + 1) (by omega) with q | q | ⟨j, hj, rfl⟩
  · exact absurd (Int32.lt_of_lt_of_le q (by rw [← nI_0]; exact nI_le (Nat.zero_le a) (by omega))) h2.1
  · exact absurd (Int32.lt_of_lt_of_le (nI_lt (Nat.lt_succ_self b) (by omega)) q) h2.2
  · exact ⟨j, Nat.not_lt.mp (fun z => h2.1 (nI_lt z (by omega))), by omega, rfl⟩
