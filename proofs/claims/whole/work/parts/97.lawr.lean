/-! The law's body: restart, digest, mean -/
theorem nan_cmp {r : UInt64} (h : isNaN64 r = true) : FP.dcmp r r = none := by
  have h1 : 9218868437227405312 < r.toNat % 9223372036854775808 := by
    have h3 : (0x7ff0000000000000 : UInt64) < r &&& 0x7fffffffffffffff := of_decide_eq_true h
    have h2 := UInt64.lt_iff_toNat_lt.mp h3
    rw [UInt64.toNat_and, show (0x7fffffffffffffff : UInt64).toNat = 2 ^ 63 - 1 from rfl, Nat.and_two_pow_sub_one_eq_mod] at h2
    exact h2
  have h4 : FP.Core.decode FP.Core.b64 r.toNat = .nan := by
    have e1 : FP.Core.fieldE FP.Core.b64 r.toNat = FP.Core.b64.exps - 1 := by
      show r.toNat / 4503599627370496 % 2048 = 2047
      omega
    have e2 : ¬ FP.Core.fieldT FP.Core.b64 r.toNat = 0 := by
      show ¬ r.toNat % 4503599627370496 = 0
      omega
    unfold FP.Core.decode
    rw [if_pos e1, if_neg e2]
  show FP.Core.order (FP.Core.decode FP.Core.b64 r.toNat) (FP.Core.decode FP.Core.b64 r.toNat) = none
  rw [h4]; rfl
theorem mean_two {S : Int32} {n : Nat} {a b : UInt64} (ha : meanP S n a) (hb : meanP S n b) : a = b ∨ (isNaN64 a = true ∧ isNaN64 b = true) := by
  by_cases h : n = 0
  · exact Or.inl ((ha.1 h).trans (hb.1 h).symm)
  · have h1 := ha.2 h
    have h2 := hb.2 h
    unfold alike64 at h1 h2
    rw [Bool.or_eq_true, Bool.and_eq_true, decide_eq_true_iff] at h1 h2
    rcases h1 with h1 | h1 <;> rcases h2 with h2 | h2
    · exact Or.inl (h1.trans h2.symm)
    · exact Or.inr ⟨by rw [h1]; exact h2.2, h2.1⟩
    · exact Or.inr ⟨h1.1, by rw [h2]; exact h1.2⟩
    · exact Or.inr ⟨h1.1, h2.1⟩
theorem mean_cmp {S : Int32} {n : Nat} {a b : UInt64} (ha : meanP S n a) (hb : meanP S n b) (h : ¬ cmpValue (FP.dcmp a b) .l = 0) : ¬ cmpValue (FP.dcmp a a) .l = 0 ∧ ¬ cmpValue (FP.dcmp b b) .l = 0 := by
  rcases mean_two ha hb with e | ⟨e1, e2⟩
  · subst e; exact ⟨h, h⟩
  · rw [nan_cmp e1, nan_cmp e2]; exact ⟨by decide, by decide⟩
set_option maxHeartbeats 4000000 in
set_option maxRecDepth 100000 in
theorem lc_restart {p : Program} {l : Launch} {e : Env} {s : State} {m : MethodId} {args : Array Value} {below : List Frame} {meth : Method} {c : Code} {b L : Nat} {xs : Nat → Int32} {D : va_G} {cI cT cJ : ClassId} {Q : State → Prop} {mo g0 t0 z0 o r tr k1 k2 k3 ts k : Nat} (C : LC p l s m args meth c b L xs D cI cT cJ) (hk : 6 * k + 6 ≤ L) (hL : L ≤ 3072) (kk : ∀ (f : Nat → Int64) (ad : Nat → Nat → Nat) (n ns tk : Nat) (KF S U V : Nat → Int32) (T : Nat → TV) (MF g : Nat → Int32) (tv : Nat → TV) (z : Nat → Int32) (H : Heap) (locs : List Loc) (ls : Array Slot), Rel n ns tk KF S U V T MF g tv → tk ≤ 500 * (k + 1) → va_P D vwCl (wRef cI mo g0 t0 z0 MF g tv z ++ (o, aJ cJ f) :: wRace cI cT r tr k1 k2 k3 ts ad n (nI tk) KF S U V T) H → va_D (fun q => s.heap.size ≤ q) (wRef cI mo g0 t0 z0 MF g tv z ++ (o, aJ cJ f) :: wRace cI cT r tr k1 k2 k3 ts ad n (nI tk) KF S U V T) → va_S (fun q => s.heap.size ≤ q) s.heap H locs → lv_has ls 9 [(4, .int (nI (6 * k))), (0, .ref b), (1, .ref r), (2, .ref mo), (3, .ref o)] → W p l e room_1 s m args below meth c H locs (20 + 6 * (k + 1)) (600 + 60 * (k + 1)) Q (F0 m 1196 ls [])) : ∀ (f : Nat → Int64) (ad : Nat → Nat → Nat) (n ns tk : Nat) (KF S U V : Nat → Int32) (T : Nat → TV) (MF g : Nat → Int32) (tv : Nat → TV) (z : Nat → Int32) (H : Heap) (locs : List Loc) (ls : Array Slot), Rel n ns tk KF S U V T MF g tv → tk ≤ 500 * k → va_P D vwCl (wRef cI mo g0 t0 z0 MF g tv z ++ (o, aJ cJ f) :: wRace cI cT r tr k1 k2 k3 ts ad n (nI tk) KF S U V T) H → va_D (fun q => s.heap.size ≤ q) (wRef cI mo g0 t0 z0 MF g tv z ++ (o, aJ cJ f) :: wRace cI cT r tr k1 k2 k3 ts ad n (nI tk) KF S U V T) → va_S (fun q => s.heap.size ≤ q) s.heap H locs → lv_has ls 9 [(4, .int (nI (6 * k))), (0, .ref b), (1, .ref r), (2, .ref mo), (3, .ref o)] → W p l e room_1 s m args below meth c H locs (20 + 6 * k) (600 + 60 * k) Q (F0 m 664 ls []) := by
  intro f ad n ns tk KF S U V T MF g tv z H locs ls hR htk hP hD hS hl
  obtain ⟨hx, hb, hml, hown, hts, hX, hbl, hK, hJ, hXS, hXN, hXZ, hl9⟩ := id C
  have hP5 : va_P D vwCl ([(mo, oM MF g0 t0 z0), (g0, aI cI 39 g), (t0, aI cI 174 (tab tv)), (z0, aI cI 174 z), (o, aJ cJ f)] ++ (wRace cI cT r tr k1 k2 k3 ts ad n (nI tk) KF S U V T)) H := hP
  have hD5 : va_D (fun q : Nat => s.heap.size ≤ q) ([(mo, oM MF g0 t0 z0), (g0, aI cI 39 g), (t0, aI cI 174 (tab tv)), (z0, aI cI 174 z), (o, aJ cJ f)] ++ (wRace cI cT r tr k1 k2 k3 ts ad n (nI tk) KF S U V T)) := hD
  refine lv_aload_n hx hb dL_law_664 rfl (lv_at hl 2 rfl) ?_
  refine sp_sI (W0 := [(mo, oM MF g0 t0 z0), (g0, aI cI 39 g), (t0, aI cI 174 (tab tv)), (z0, aI cI 174 z), (o, aJ cJ f)]) (w := (wRace cI cT r tr k1 k2 k3 ts ad n (nI tk) KF S U V T)) (w' := (wRace cI cT r tr k1 k2 k3 ts ad n 0 KF S U V (eachT cStartN T n))) (rest := []) (As := []) ⟨hx, hb, hml, hown, hts⟩ (mX2_restart l D cI cT r tr k1 k2 k3 ts ad n hR.n6 (nI tk) KF S U V T hR.wd.teams) (cwV 0 hts gL_law_X2_restart rfl rfl rfl (by decide +kernel) ⟨Nat.le_of_ble_eq_true rfl, Nat.le_of_ble_eq_true rfl⟩) hK hP5 hD5 hS (xb_fst rfl cI ad _ _ (n + 2)) (ci := 2) rfl rfl rfl rfl hl.1 rfl (Nat.le_of_ble_eq_true rfl) dL_law_665 ⟨show 20 + 6 * k ≤ 639876 by omega, show 600 + 60 * k ≤ 7176476 by omega⟩ (fun H locs hP hD hS => ?_)
  have hP : va_P D vwCl (wRef cI mo g0 t0 z0 MF g tv z ++ (o, aJ cJ f) :: (wRace cI cT r tr k1 k2 k3 ts ad n 0 KF S U V (eachT cStartN T n))) H := hP
  have hD : va_D (fun q : Nat => s.heap.size ≤ q) (wRef cI mo g0 t0 z0 MF g tv z ++ (o, aJ cJ f) :: (wRace cI cT r tr k1 k2 k3 ts ad n 0 KF S U V (eachT cStartN T n))) := hD
  refine lv_aload_n hx hb dL_law_668 rfl (lv_at hl 3 rfl) ?_
  refine sp_vI (rest := [.int (nI n)]) (As := []) (W1 := wRef cI mo g0 t0 z0 (mRestartF MF) g (mTv mBeginT tv n) z ++ (o, aJ cJ f) :: (wRace cI cT r tr k1 k2 k3 ts ad n 0 KF S U V (eachT cStartN T n))) ⟨hx, hb, hml, hown, hts⟩ (mX3_restart l D cI cT mo g0 t0 z0 MF tv n hR.n6 hR.m2 hR.wd.mok) (cwV 0 hts gL_law_X3_restart rfl rfl rfl (by decide +kernel) ⟨Nat.le_of_ble_eq_true rfl, Nat.le_of_ble_eq_true rfl⟩) hK hP hD hS [0, 2] rfl (fun k q h => by simp at h) (sp_nsub (sp_nod2 hD) [0, 2] (by decide) rfl) rfl rfl rfl (ci := 3) rfl rfl rfl rfl hl.1 rfl (Nat.le_of_ble_eq_true rfl) dL_law_669 ⟨show 20 + 6 * k ≤ 639876 by omega, show 600 + 60 * k ≤ 7176476 by omega⟩ (fun H locs hP hD hS => ?_)
  refine lv_icmp_eq (tgt := 1196) hx hb dL_law_672 (by decide) (fun _ => ?_) (fun cq => absurd hR.m2.symm cq)
  refine W.widen (k := 20 + 6 * (k + 1)) (n := 600 + 60 * (k + 1)) (by omega) (by omega) ?_
  exact kk f ad n ns 0 KF S U V _ (mRestartF MF) g (mTv mBeginT tv n) z H locs ls (q_restart hR) (by omega) hP hD hS hl
set_option maxHeartbeats 4000000 in
set_option maxRecDepth 100000 in
theorem lc_digest {p : Program} {l : Launch} {e : Env} {s : State} {m : MethodId} {args : Array Value} {below : List Frame} {meth : Method} {c : Code} {b L : Nat} {xs : Nat → Int32} {D : va_G} {cI cT cJ : ClassId} {Q : State → Prop} {mo g0 t0 z0 o r tr k1 k2 k3 ts k : Nat} (C : LC p l s m args meth c b L xs D cI cT cJ) (hk : 6 * k + 6 ≤ L) (hL : L ≤ 3072) (kk : ∀ (f : Nat → Int64) (ad : Nat → Nat → Nat) (n ns tk : Nat) (KF S U V : Nat → Int32) (T : Nat → TV) (MF g : Nat → Int32) (tv : Nat → TV) (z : Nat → Int32) (H : Heap) (locs : List Loc) (ls : Array Slot), Rel n ns tk KF S U V T MF g tv → tk ≤ 500 * (k + 1) → va_P D vwCl (wRef cI mo g0 t0 z0 MF g tv z ++ (o, aJ cJ f) :: wRace cI cT r tr k1 k2 k3 ts ad n (nI tk) KF S U V T) H → va_D (fun q => s.heap.size ≤ q) (wRef cI mo g0 t0 z0 MF g tv z ++ (o, aJ cJ f) :: wRace cI cT r tr k1 k2 k3 ts ad n (nI tk) KF S U V T) → va_S (fun q => s.heap.size ≤ q) s.heap H locs → lv_has ls 9 [(4, .int (nI (6 * k))), (0, .ref b), (1, .ref r), (2, .ref mo), (3, .ref o)] → W p l e room_1 s m args below meth c H locs (20 + 6 * (k + 1)) (600 + 60 * (k + 1)) Q (F0 m 1196 ls [])) : ∀ (f : Nat → Int64) (ad : Nat → Nat → Nat) (n ns tk : Nat) (KF S U V : Nat → Int32) (T : Nat → TV) (MF g : Nat → Int32) (tv : Nat → TV) (z : Nat → Int32) (H : Heap) (locs : List Loc) (ls : Array Slot), Rel n ns tk KF S U V T MF g tv → tk ≤ 500 * k → va_P D vwCl (wRef cI mo g0 t0 z0 MF g tv z ++ (o, aJ cJ f) :: wRace cI cT r tr k1 k2 k3 ts ad n (nI tk) KF S U V T) H → va_D (fun q => s.heap.size ≤ q) (wRef cI mo g0 t0 z0 MF g tv z ++ (o, aJ cJ f) :: wRace cI cT r tr k1 k2 k3 ts ad n (nI tk) KF S U V T) → va_S (fun q => s.heap.size ≤ q) s.heap H locs → lv_has ls 9 [(4, .int (nI (6 * k))), (0, .ref b), (1, .ref r), (2, .ref mo), (3, .ref o)] → W p l e room_1 s m args below meth c H locs (20 + 6 * k) (600 + 60 * k) Q (F0 m 1182 ls []) := by
  intro f ad n ns tk KF S U V T MF g tv z H locs ls hR htk hP hD hS hl
  obtain ⟨hx, hb, hml, hown, hts, hX, hbl, hK, hJ, hXS, hXN, hXZ, hl9⟩ := id C
  have hP5 : va_P D vwCl ([(mo, oM MF g0 t0 z0), (g0, aI cI 39 g), (t0, aI cI 174 (tab tv)), (z0, aI cI 174 z), (o, aJ cJ f)] ++ (wRace cI cT r tr k1 k2 k3 ts ad n (nI tk) KF S U V T)) H := hP
  refine lv_aload_n hx hb dL_law_1182 rfl (lv_at hl 2 rfl) ?_
  refine sp_rVl (rest := []) (As := []) ⟨hx, hb, hml, hown, hts⟩ (mX2_digest l D cI cT r tr k1 k2 k3 ts ad n hR.n6 (nI tk) KF S U V T hR.wd.teams) (cwV 0 hts gL_law_X2_digest rfl rfl rfl (by decide +kernel) ⟨Nat.le_of_ble_eq_true rfl, Nat.le_of_ble_eq_true rfl⟩) hK (sp_suf hP5) (ci := 2) rfl rfl rfl rfl hl.1 rfl (Nat.le_of_ble_eq_true rfl) dL_law_1183 ⟨show 20 + 6 * k ≤ 639876 by omega, show 600 + 60 * k ≤ 7176476 by omega⟩ ?_
  refine lv_aload_n hx hb dL_law_1186 rfl (lv_at hl 3 rfl) ?_
  refine sp_vL (rest := [.long (cDigest KF T n (nI tk))]) (As := []) (W1 := wRef cI mo g0 t0 z0 (upd MF 0 0) g tv z ++ (o, aJ cJ f) :: (wRace cI cT r tr k1 k2 k3 ts ad n (nI tk) KF S U V T)) ⟨hx, hb, hml, hown, hts⟩ (mX3_digest l D cI cT mo g0 t0 z0 MF tv n hR.n6 hR.m2 hR.wd.mok) (cwV 0 hts gL_law_X3_digest rfl rfl rfl (by decide +kernel) ⟨Nat.le_of_ble_eq_true rfl, Nat.le_of_ble_eq_true rfl⟩) hK hP hD hS [0, 2] rfl (fun k q h => by simp at h) (sp_nsub (sp_nod2 hD) [0, 2] (by decide) rfl) rfl rfl rfl (ci := 3) rfl rfl rfl rfl hl.1 rfl (Nat.le_of_ble_eq_true rfl) dL_law_1187 ⟨show 20 + 6 * k ≤ 639876 by omega, show 600 + 60 * k ≤ 7176476 by omega⟩ (fun H locs hP hD hS => ?_)
  refine W.lcmp hx hb dL_law_1190 ?_
  refine lv_if_eq (tgt := 1196) hx hb dL_law_1191 (by decide) (fun _ => ?_) (fun c3 => absurd ((lg_cmp_eq _ _).mpr (q_digest hR)) c3)
  refine W.widen (k := 20 + 6 * (k + 1)) (n := 600 + 60 * (k + 1)) (by omega) (by omega) ?_
  exact kk f ad n ns tk KF S U V T (upd MF 0 0) g tv z H locs ls (hR.th 0) (by omega) hP hD hS hl
set_option maxHeartbeats 4000000 in
set_option maxRecDepth 100000 in
theorem lc_mean {p : Program} {l : Launch} {e : Env} {s : State} {m : MethodId} {args : Array Value} {below : List Frame} {meth : Method} {c : Code} {b L : Nat} {xs : Nat → Int32} {D : va_G} {cI cT cJ : ClassId} {Q : State → Prop} {mo g0 t0 z0 o r tr k1 k2 k3 ts k : Nat} (C : LC p l s m args meth c b L xs D cI cT cJ) (hk : 6 * k + 6 ≤ L) (hL : L ≤ 3072) (kk : ∀ (d0 : Drawn), s.drawn.sameBut d0 lw_cs → ∀ (f : Nat → Int64) (ad : Nat → Nat → Nat) (n ns tk : Nat) (KF S U V : Nat → Int32) (T : Nat → TV) (MF g : Nat → Int32) (tv : Nat → TV) (z : Nat → Int32) (H : Heap) (locs : List Loc) (ls : Array Slot), Rel n ns tk KF S U V T MF g tv → tk ≤ 500 * (k + 1) → va_P D vwCl (wRef cI mo g0 t0 z0 MF g tv z ++ (o, aJ cJ f) :: wRace cI cT r tr k1 k2 k3 ts ad n (nI tk) KF S U V T) H → va_D (fun q => s.heap.size ≤ q) (wRef cI mo g0 t0 z0 MF g tv z ++ (o, aJ cJ f) :: wRace cI cT r tr k1 k2 k3 ts ad n (nI tk) KF S U V T) → va_S (fun q => s.heap.size ≤ q) s.heap H locs → lv_has ls 9 [(4, .int (nI (6 * k))), (0, .ref b), (1, .ref r), (2, .ref mo), (3, .ref o)] → W p l e room_1 (s.setDrawn d0) m args below meth c H locs (20 + 6 * (k + 1)) (600 + 60 * (k + 1)) Q (F0 m 1196 ls [])) (d0 : Drawn) (hd0 : s.drawn.sameBut d0 lw_cs) : ∀ (f : Nat → Int64) (ad : Nat → Nat → Nat) (n ns tk : Nat) (KF S U V : Nat → Int32) (T : Nat → TV) (MF g : Nat → Int32) (tv : Nat → TV) (z : Nat → Int32) (H : Heap) (locs : List Loc) (ls : Array Slot), Rel n ns tk KF S U V T MF g tv → tk ≤ 500 * k → va_P D vwCl (wRef cI mo g0 t0 z0 MF g tv z ++ (o, aJ cJ f) :: wRace cI cT r tr k1 k2 k3 ts ad n (nI tk) KF S U V T) H → va_D (fun q => s.heap.size ≤ q) (wRef cI mo g0 t0 z0 MF g tv z ++ (o, aJ cJ f) :: wRace cI cT r tr k1 k2 k3 ts ad n (nI tk) KF S U V T) → va_S (fun q => s.heap.size ≤ q) s.heap H locs → lv_has ls 9 [(4, .int (nI (6 * k))), (0, .ref b), (1, .ref r), (2, .ref mo), (3, .ref o)] → W p l e room_1 (s.setDrawn d0) m args below meth c H locs (20 + 6 * k) (600 + 60 * k) Q (F0 m 1141 ls []) := by
  intro f ad n ns tk KF S U V T MF g tv z H locs ls hR htk hP hD hS hl
  obtain ⟨hx, hb, hml, hown, hts, hX, hbl, hK, hJ, hXS, hXN, hXZ, hl9⟩ := id C
  have hP5 : va_P D vwCl ([(mo, oM MF g0 t0 z0), (g0, aI cI 39 g), (t0, aI cI 174 (tab tv)), (z0, aI cI 174 z), (o, aJ cJ f)] ++ (wRace cI cT r tr k1 k2 k3 ts ad n (nI tk) KF S U V T)) H := hP
  have hD5 : va_D (fun q : Nat => s.heap.size ≤ q) ([(mo, oM MF g0 t0 z0), (g0, aI cI 39 g), (t0, aI cI 174 (tab tv)), (z0, aI cI 174 z), (o, aJ cJ f)] ++ (wRace cI cT r tr k1 k2 k3 ts ad n (nI tk) KF S U V T)) := hD
  refine lv_aload_n hx hb dL_law_1141 rfl (lv_at hl 2 rfl) ?_
  refine sp_sD (W0 := [(mo, oM MF g0 t0 z0), (g0, aI cI 39 g), (t0, aI cI 174 (tab tv)), (z0, aI cI 174 z), (o, aJ cJ f)]) (w := (wRace cI cT r tr k1 k2 k3 ts ad n (nI tk) KF S U V T)) (w' := (wRace cI cT r tr k1 k2 k3 ts ad n (nI tk) KF S U V T)) (rest := []) (As := []) hd0 ⟨hx, hb, hml, hown, dr_words hts d0⟩ (mX2_mean l D cI cT r tr k1 k2 k3 ts ad n hR.n6 (nI tk) KF S U V T) (cwV 0 (dr_words hts d0) gL_law_X2_mean rfl rfl rfl (by decide +kernel) ⟨Nat.le_of_ble_eq_true rfl, Nat.le_of_ble_eq_true rfl⟩) hK hP5 hD5 hS rfl (ci := 2) rfl rfl rfl rfl hl.1 rfl (Nat.le_of_ble_eq_true rfl) dL_law_1142 ⟨show 20 + 6 * k ≤ 639876 by omega, show 600 + 60 * k ≤ 7176476 by omega⟩ (fun r1 H locs d1 hd1 hm1 hP hD hS => ?_)
  have hP : va_P D vwCl (wRef cI mo g0 t0 z0 MF g tv z ++ (o, aJ cJ f) :: (wRace cI cT r tr k1 k2 k3 ts ad n (nI tk) KF S U V T)) H := hP
  have hD : va_D (fun q : Nat => s.heap.size ≤ q) (wRef cI mo g0 t0 z0 MF g tv z ++ (o, aJ cJ f) :: (wRace cI cT r tr k1 k2 k3 ts ad n (nI tk) KF S U V T)) := hD
  refine lv_dstore (lv' := [(5, .double r1), (4, .int (nI (6 * k))), (0, .ref b), (1, .ref r), (2, .ref mo), (3, .ref o)]) hx hb dL_law_1145 hl (by decide) rfl (fun ls hl => ?_)
  refine lv_aload_n hx hb dL_law_1147 rfl (lv_at hl 4 rfl) ?_
  refine sp_vD (rest := []) (As := []) (W1 := wRef cI mo g0 t0 z0 (upd MF 0 0) g tv z ++ (o, aJ cJ f) :: (wRace cI cT r tr k1 k2 k3 ts ad n (nI tk) KF S U V T)) hd1 ⟨hx, hb, hml, hown, dr_words hts d1⟩ (mX3_mean l D cI cT mo g0 t0 z0 MF tv n hR.n6 hR.m2) (cwV 0 (dr_words hts d1) gL_law_X3_mean rfl rfl rfl (by decide +kernel) ⟨Nat.le_of_ble_eq_true rfl, Nat.le_of_ble_eq_true rfl⟩) hK hP hD hS [0, 2] rfl (fun k q h => by simp at h) (sp_nsub (sp_nod2 hD) [0, 2] (by decide) rfl) rfl rfl rfl (ci := 3) rfl rfl rfl rfl hl.1 rfl (Nat.le_of_ble_eq_true rfl) dL_law_1148 ⟨show 20 + 6 * k ≤ 639876 by omega, show 600 + 60 * k ≤ 7176476 by omega⟩ (fun r2 H locs d2 hd2 hm2 hP hD hS => ?_)
  refine lv_dstore (lv' := [(7, .double r2), (5, .double r1), (4, .int (nI (6 * k))), (0, .ref b), (1, .ref r), (2, .ref mo), (3, .ref o)]) hx hb dL_law_1151 hl (by decide) rfl (fun ls hl => ?_)
  rw [q_mean hR] at hm1
  have hend : W p l e room_1 (s.setDrawn d2) m args below meth c H locs (20 + 6 * k) (600 + 60 * k) Q (F0 m 1196 ls []) := by
    refine W.widen (k := 20 + 6 * (k + 1)) (n := 600 + 60 * (k + 1)) (by omega) (by omega) ?_
    exact kk d2 hd2 f ad n ns tk KF S U V T (upd MF 0 0) g tv z H locs ls (hR.th 0) (by omega) hP hD hS (lv_sub hl [2, 3, 4, 5, 6] rfl)
  have hgo : W p l e room_1 (s.setDrawn d2) m args below meth c H locs (20 + 6 * k) (600 + 60 * k) Q (F0 m 1179 ls []) := by
    refine lv_goto (tgt := 1196) hx hb dL_law_1179 (by decide) ?_
    exact hend
  refine lv_dload hx hb dL_law_1153 (lv_at hl 1 rfl) ?_
  refine lv_dload hx hb dL_law_1155 (lv_at hl 0 rfl) ?_
  refine lv_dcmp hx hb dL_law_1157 ?_
  refine lv_if_eq (tgt := 1179) hx hb dL_law_1158 (by decide) (fun _ => hgo) (fun c1 => ?_)
  obtain ⟨n1, n2⟩ := mean_cmp hm1 hm2 c1
  refine lv_dload hx hb dL_law_1161 (lv_at hl 1 rfl) ?_
  refine lv_dload hx hb dL_law_1163 (lv_at hl 1 rfl) ?_
  refine lv_dcmp hx hb dL_law_1165 ?_
  refine lv_if_eq (tgt := 1177) hx hb dL_law_1166 (by decide) (fun c2 => absurd c2 n1) (fun _ => ?_)
  refine lv_dload hx hb dL_law_1169 (lv_at hl 0 rfl) ?_
  refine lv_dload hx hb dL_law_1171 (lv_at hl 0 rfl) ?_
  refine lv_dcmp hx hb dL_law_1173 ?_
  exact lv_if_ne (tgt := 1179) hx hb dL_law_1174 (by decide) (fun _ => hgo) (fun c3 => absurd c3 n2)
