/-! p20: the mean is a number -/
def fp_ok (n s : Nat) : Bool := decide (FP.dcmp (FP.ddiv (FP.i2d (nI s)) (FP.i2d (nI n))) (FP.ddiv (FP.i2d (nI s)) (FP.i2d (nI n))) = some .eq)
theorem fp_t1 : (List.range 1441).all (fp_ok 1) = true := by decide +kernel
theorem fp_t2 : (List.range 2881).all (fp_ok 2) = true := by decide +kernel
theorem fp_t3 : (List.range 4321).all (fp_ok 3) = true := by decide +kernel
theorem fp_t4 : (List.range 5761).all (fp_ok 4) = true := by decide +kernel
theorem fp_z : (List.range 5).all (fun n => decide (n = 0 ∨ FP.dcmp (FP.ddiv (FP.i2d (nI 0)) (FP.i2d (nI n))) FP.dconst0 = some .eq)) = true := by decide +kernel
theorem fp_all {n s : Nat} (h1 : 1 ≤ n) (h4 : n ≤ 4) (hs : s ≤ 1440 * n) : FP.dcmp (FP.ddiv (FP.i2d (nI s)) (FP.i2d (nI n))) (FP.ddiv (FP.i2d (nI s)) (FP.i2d (nI n))) = some .eq := by
  rcases (show n = 1 ∨ n = 2 ∨ n = 3 ∨ n = 4 by omega) with e | e | e | e <;> subst e
  · exact of_decide_eq_true (List.all_eq_true.mp fp_t1 s (List.mem_range.mpr (by omega)))
  · exact of_decide_eq_true (List.all_eq_true.mp fp_t2 s (List.mem_range.mpr (by omega)))
  · exact of_decide_eq_true (List.all_eq_true.mp fp_t3 s (List.mem_range.mpr (by omega)))
  · exact of_decide_eq_true (List.all_eq_true.mp fp_t4 s (List.mem_range.mpr (by omega)))
theorem nan_cmp {r : UInt64} (h : isNaN64 r = true) : FP.dcmp r r = none := by
  have h1 : 9218868437227405312 < r.toNat % 9223372036854775808 := by
    have h3 : (0x7ff0000000000000 : UInt64) < r &&& 0x7fffffffffffffff := of_decide_eq_true h
    have h2 := UInt64.lt_iff_toNat_lt.mp h3
    rw [UInt64.toNat_and, show (0x7fffffffffffffff : UInt64).toNat = 2 ^ 63 - 1 from rfl, Nat.and_two_pow_sub_one_eq_mod] at h2
    exact h2
  have h4 : FP.Core.decode FP.Core.b64 r.toNat = .nan := by
    have e1 : FP.Core.fieldE FP.Core.b64 r.toNat = FP.Core.b64.exps - 1 := by
      show r.toNat / 4503599627370496 % 2048 = 2047
      omega
    have e2 : ¬ FP.Core.fieldT FP.Core.b64 r.toNat = 0 := by
      show ¬ r.toNat % 4503599627370496 = 0
      omega
    unfold FP.Core.decode
    rw [if_pos e1, if_neg e2]
  show FP.Core.order (FP.Core.decode FP.Core.b64 r.toNat) (FP.Core.decode FP.Core.b64 r.toNat) = none
  rw [h4]; rfl
theorem alike_eq {z q : UInt64} (h : alike64 z q = true) (hq : FP.dcmp q q = some .eq) : z = q := by
  unfold alike64 at h
  rw [Bool.or_eq_true, Bool.and_eq_true, decide_eq_true_iff] at h
  rcases h with h | h
  · exact h
  · rw [nan_cmp h.2] at hq; cases hq
theorem mean_eq {n s : Nat} {a b : UInt64} (h1 : 1 ≤ n) (h4 : n ≤ 4) (hs : s ≤ 1440 * n) (ha : meanP (nI s) n a) (hb : alike64 b (FP.ddiv (FP.i2d (nI s)) (FP.i2d (nI n))) = true) : cmpValue (FP.dcmp a b) .l = 0 := by
  have hq := fp_all h1 h4 hs
  rw [alike_eq (ha.2 (by omega)) hq, alike_eq hb hq, hq]
  rfl
theorem mean_0 {n : Nat} {a : UInt64} (h1 : 1 ≤ n) (h4 : n ≤ 4) (ha : meanP 0 n a) : cmpValue (FP.dcmp a FP.dconst0) .l = 0 := by
  have hq := fp_all (s := 0) h1 h4 (by omega)
  have h2 := of_decide_eq_true (List.all_eq_true.mp fp_z n (List.mem_range.mpr (by omega)))
  rw [alike_eq (ha.2 (by omega)) hq]
  rcases h2 with h2 | h2
  · omega
  · show cmpValue (FP.dcmp (FP.ddiv (FP.i2d (nI 0)) (FP.i2d (nI n))) FP.dconst0) .l = 0
    rw [h2]; rfl
