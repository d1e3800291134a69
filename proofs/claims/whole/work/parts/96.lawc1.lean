/-! The law's body, case by case (setLength, lay, ground) -/
set_option maxHeartbeats 4000000 in
set_option maxRecDepth 100000 in
theorem lc_setLength {p : Program} {l : Launch} {e : Env} {s : State} {m : MethodId} {args : Array Value} {below : List Frame} {meth : Method} {c : Code} {b L : Nat} {xs : Nat → Int32} {D : va_G} {cI cT cJ : ClassId} {Q : State → Prop} {mo g0 t0 z0 o r tr k1 k2 k3 ts k : Nat} (C : LC p l s m args meth c b L xs D cI cT cJ) (hk : 6 * k + 6 ≤ L) (hL : L ≤ 3072) (kk : ∀ (f : Nat → Int64) (ad : Nat → Nat → Nat) (n ns tk : Nat) (KF S U V : Nat → Int32) (T : Nat → TV) (MF g : Nat → Int32) (tv : Nat → TV) (z : Nat → Int32) (H : Heap) (locs : List Loc) (ls : Array Slot), Rel n ns tk KF S U V T MF g tv → tk ≤ 500 * (k + 1) → va_P D vwCl (wRef cI mo g0 t0 z0 MF g tv z ++ (o, aJ cJ f) :: wRace cI cT r tr k1 k2 k3 ts ad n (nI tk) KF S U V T) H → va_D (fun q => s.heap.size ≤ q) (wRef cI mo g0 t0 z0 MF g tv z ++ (o, aJ cJ f) :: wRace cI cT r tr k1 k2 k3 ts ad n (nI tk) KF S U V T) → va_S (fun q => s.heap.size ≤ q) s.heap H locs → lv_has ls 9 [(4, .int (nI (6 * k))), (0, .ref b), (1, .ref r), (2, .ref mo), (3, .ref o)] → W p l e room_1 s m args below meth c H locs (20 + 6 * (k + 1)) (600 + 60 * (k + 1)) Q (F0 m 1196 ls []))  : ∀ (f : Nat → Int64) (ad : Nat → Nat → Nat) (n ns tk : Nat) (KF S U V : Nat → Int32) (T : Nat → TV) (MF g : Nat → Int32) (tv : Nat → TV) (z : Nat → Int32) (H : Heap) (locs : List Loc) (ls : Array Slot), Rel n ns tk KF S U V T MF g tv → tk ≤ 500 * k → va_P D vwCl (wRef cI mo g0 t0 z0 MF g tv z ++ (o, aJ cJ f) :: wRace cI cT r tr k1 k2 k3 ts ad n (nI tk) KF S U V T) H → va_D (fun q => s.heap.size ≤ q) (wRef cI mo g0 t0 z0 MF g tv z ++ (o, aJ cJ f) :: wRace cI cT r tr k1 k2 k3 ts ad n (nI tk) KF S U V T) → va_S (fun q => s.heap.size ≤ q) s.heap H locs → lv_has ls 9 [(4, .int (nI (6 * k))), (0, .ref b), (1, .ref r), (2, .ref mo), (3, .ref o)] → W p l e room_1 s m args below meth c H locs (20 + 6 * k) (600 + 60 * k) Q (F0 m 124 ls []) := by
  intro f ad n ns tk KF S U V T MF g tv z H locs ls hR htk hP hD hS hl
  obtain ⟨hx, hb, hml, hown, hts, hX, hbl, hK, hJ, hXS, hXN, hXZ, hl9⟩ := id C
  have hA : ∀ q : Nat, s.heap.size ≤ q → (fun q : Nat => s.heap.size ≤ q) q := fun _ h => h
  have hbA : ¬ (fun q : Nat => s.heap.size ≤ q) b := Nat.not_le.mpr hbl
  obtain ⟨y1, ey1⟩ : ∃ y, y = xs (nI (6 * k) + nI 1).toNatClampNeg := ⟨_, rfl⟩
  have hq := q_len hR y1
  obtain ⟨z9, hz⟩ : ∃ z9, z9 = hcode hc12 (rLen y1 KF (nI tk)) := ⟨_, rfl⟩
  obtain ⟨v9, ev⟩ : ∃ v9, v9 = (mSetLength y1 MF).1 := ⟨_, rfl⟩
  refine lv_aload_n hx hb dL_law_124 rfl (lv_at hl 2 rfl) ?_
  refine lv_aload_n hx hb dL_law_125 rfl (lv_at hl 1 rfl) ?_
  refine lv_iload hx hb dL_law_126 (lv_at hl 0 rfl) ?_
  refine lv_iconst (v := 1) hx hb dL_law_128 (by decide) ?_
  refine lv_iadd hx hb dL_law_129 ?_
  refine va_sld hx hb hX hbl hbA hS (ix_in (j := 1) (by omega) hL) dL_law_130 ?_
  refine sp_top ey1.symm ?_
  refine lv_aload_n hx hb dL_law_131 rfl (lv_at hl 4 rfl) ?_
  refine sp_hI (R4 := wRef cI mo g0 t0 z0 MF g tv z) (w := (wRace cI cT r tr k1 k2 k3 ts ad n (nI tk) KF S U V T)) (w' := (wRace cI cT r tr k1 k2 k3 ts ad n (nI tk) (upd KF 4 y1) S U V T)) (rest := []) (As := [.ref r, .int y1, .ref o]) ⟨hx, hb, hml, hown, hts⟩ (mL_setLength l D cI cT cJ hl9 H.size o f r tr k1 k2 k3 ts ad n hR.n6 (nI tk) KF S U V T y1) (vx_cwSW 3 hts gL_law_L_setLength rfl rfl rfl (by decide +kernel) ⟨Nat.le_of_ble_eq_true rfl, Nat.le_of_ble_eq_true rfl⟩) hK hXZ hXS hXN hJ hP hD hS hA (xb_fst rfl cI ad _ _ (n + 2)) rfl hl.1 rfl (Nat.le_of_ble_eq_true rfl) dL_law_132 ⟨show 20 + 6 * k + 1 ≤ 639876 by omega, show 600 + 60 * k + 6 ≤ 7176476 by omega⟩ (fun f2 H locs hf2 hP hD hS => ?_)
  refine sp_top hz.symm ?_
  refine lv_istore (lv' := [(5, .int z9), (4, .int (nI (6 * k))), (0, .ref b), (1, .ref r), (2, .ref mo), (3, .ref o)]) hx hb dL_law_135 hl (by decide) rfl (fun ls hl => ?_)
  refine lv_aload_n hx hb dL_law_137 rfl (lv_at hl 4 rfl) ?_
  refine lv_aload_n hx hb dL_law_138 rfl (lv_at hl 2 rfl) ?_
  refine lv_iload hx hb dL_law_139 (lv_at hl 1 rfl) ?_
  refine lv_iconst (v := 1) hx hb dL_law_141 (by decide) ?_
  refine lv_iadd hx hb dL_law_142 ?_
  refine va_sld hx hb hX hbl hbA hS (ix_in (j := 1) (by omega) hL) dL_law_143 ?_
  refine sp_top ey1.symm ?_
  refine sp_vI (rest := []) (As := [.int y1]) (W1 := wRef cI mo g0 t0 z0 (mSetLength y1 MF).2 g tv z ++ (o, aJ cJ f2) :: hWd (rLen y1 KF (nI tk)) (wRace cI cT r tr k1 k2 k3 ts ad n (nI tk) KF S U V T) (wRace cI cT r tr k1 k2 k3 ts ad n (nI tk) (upd KF 4 y1) S U V T)) ⟨hx, hb, hml, hown, hts⟩ (mX3_setLength l D cI cT mo g0 t0 z0 MF y1) (cwV 1 hts gL_law_X3_setLength rfl rfl rfl (by decide +kernel) ⟨Nat.le_of_ble_eq_true rfl, Nat.le_of_ble_eq_true rfl⟩) hK hP hD hS [0] rfl (fun k q h => by simp at h) (sp_nsub (sp_nod2 hD) [0] (by decide) rfl) rfl rfl rfl (ci := 3) rfl rfl rfl rfl hl.1 rfl (Nat.le_of_ble_eq_true rfl) dL_law_144 ⟨show 20 + 6 * k + 1 ≤ 639876 by omega, show 600 + 60 * k + 6 ≤ 7176476 by omega⟩ (fun H locs hP hD hS => ?_)
  refine sp_top ev.symm ?_
  refine lv_istore (lv' := [(6, .int v9), (5, .int z9), (4, .int (nI (6 * k))), (0, .ref b), (1, .ref r), (2, .ref mo), (3, .ref o)]) hx hb dL_law_147 hl (by decide) rfl (fun ls hl => ?_)
  refine lv_aload_n hx hb dL_law_149 rfl (lv_at hl 5 rfl) ?_
  refine sp_rV (rest := []) (As := []) ⟨hx, hb, hml, hown, hts⟩ (mX3_thrown l D cI cT mo g0 t0 z0 (mSetLength y1 MF).2) (cwV 0 hts gL_law_X3_thrown rfl rfl rfl (by decide +kernel) ⟨Nat.le_of_ble_eq_true rfl, Nat.le_of_ble_eq_true rfl⟩) hK (sp_pick hP [0] rfl) (ci := 3) rfl rfl rfl rfl hl.1 rfl (Nat.le_of_ble_eq_true rfl) dL_law_150 ⟨show 20 + 6 * k + 1 ≤ 639876 by omega, show 600 + 60 * k + 6 ≤ 7176476 by omega⟩ ?_
  refine sp_top hq.1.1 ?_
  refine sp_top hz.symm ?_
  refine lv_iload hx hb dL_law_153 (lv_at hl 1 rfl) ?_
  refine lv_icmp_eq (tgt := 160) hx hb dL_law_155 (by decide) (fun _ => ?_) (fun cq => absurd rfl cq)
  refine lv_iload hx hb dL_law_160 (lv_at hl 1 rfl) ?_
  refine lv_if_ne (tgt := 177) hx hb dL_law_162 (by decide) (fun cz => ?_) (fun cz => ?_)
  · skip
    refine lv_goto (tgt := 1196) hx hb dL_law_177 (by decide) ?_
    obtain ⟨E, hres⟩ := hcode_nz (fun h => cz (hz.trans h))
    rw [hres] at hP hD
    refine W.widen (k := 20 + 6 * (k + 1)) (n := 600 + 60 * (k + 1)) (by omega) (by omega) ?_
    exact kk f2 ad n ns tk KF S U V T (mSetLength y1 MF).2 g tv z H locs ls (hq.2.2 E hres) (by omega) hP hD hS (lv_sub hl [2, 3, 4, 5, 6] rfl)
  · skip
    obtain ⟨v, hres⟩ := hcode_z nz12 (hz.symm.trans cz)
    refine lv_aload_n hx hb dL_law_165 rfl (lv_at hl 6 rfl) ?_
    refine lv_iconst (v := 0) hx hb dL_law_166 (by decide) ?_
    refine va_lald hx hb hJ hP 4 0 rfl rfl (show vp_in 0 1 from vp_in_nI (show 0 < 1 by decide) (by decide)) dL_law_167 ?_
    refine sp_topl (show f2 (0 : Int32).toNatClampNeg = Int32.toInt64 v9 from (hf2 v hres).trans (by rw [hq.1.2 v hres, ev])) ?_
    refine lv_iload hx hb dL_law_168 (lv_at hl 0 rfl) ?_
    refine lv_i2l (v := Int32.toInt64 v9) hx hb dL_law_170 rfl ?_
    refine W.lcmp hx hb dL_law_171 ?_
    refine lv_if_eq (tgt := 177) hx hb dL_law_172 (by decide) (fun _ => ?_) (fun c3 => absurd ((lg_cmp_eq _ _).mpr rfl) c3)
    refine lv_goto (tgt := 1196) hx hb dL_law_177 (by decide) ?_
    rw [hres] at hP hD
    refine W.widen (k := 20 + 6 * (k + 1)) (n := 600 + 60 * (k + 1)) (by omega) (by omega) ?_
    exact kk f2 ad n ns tk (upd KF 4 y1) S U V T (mSetLength y1 MF).2 g tv z H locs ls (hq.2.1 v hres) (by omega) hP hD hS (lv_sub hl [2, 3, 4, 5, 6] rfl)
set_option maxHeartbeats 4000000 in
set_option maxRecDepth 100000 in
theorem lc_lay {p : Program} {l : Launch} {e : Env} {s : State} {m : MethodId} {args : Array Value} {below : List Frame} {meth : Method} {c : Code} {b L : Nat} {xs : Nat → Int32} {D : va_G} {cI cT cJ : ClassId} {Q : State → Prop} {mo g0 t0 z0 o r tr k1 k2 k3 ts k : Nat} (C : LC p l s m args meth c b L xs D cI cT cJ) (hk : 6 * k + 6 ≤ L) (hL : L ≤ 3072) (kk : ∀ (f : Nat → Int64) (ad : Nat → Nat → Nat) (n ns tk : Nat) (KF S U V : Nat → Int32) (T : Nat → TV) (MF g : Nat → Int32) (tv : Nat → TV) (z : Nat → Int32) (H : Heap) (locs : List Loc) (ls : Array Slot), Rel n ns tk KF S U V T MF g tv → tk ≤ 500 * (k + 1) → va_P D vwCl (wRef cI mo g0 t0 z0 MF g tv z ++ (o, aJ cJ f) :: wRace cI cT r tr k1 k2 k3 ts ad n (nI tk) KF S U V T) H → va_D (fun q => s.heap.size ≤ q) (wRef cI mo g0 t0 z0 MF g tv z ++ (o, aJ cJ f) :: wRace cI cT r tr k1 k2 k3 ts ad n (nI tk) KF S U V T) → va_S (fun q => s.heap.size ≤ q) s.heap H locs → lv_has ls 9 [(4, .int (nI (6 * k))), (0, .ref b), (1, .ref r), (2, .ref mo), (3, .ref o)] → W p l e room_1 s m args below meth c H locs (20 + 6 * (k + 1)) (600 + 60 * (k + 1)) Q (F0 m 1196 ls []))  : ∀ (f : Nat → Int64) (ad : Nat → Nat → Nat) (n ns tk : Nat) (KF S U V : Nat → Int32) (T : Nat → TV) (MF g : Nat → Int32) (tv : Nat → TV) (z : Nat → Int32) (H : Heap) (locs : List Loc) (ls : Array Slot), Rel n ns tk KF S U V T MF g tv → tk ≤ 500 * k → va_P D vwCl (wRef cI mo g0 t0 z0 MF g tv z ++ (o, aJ cJ f) :: wRace cI cT r tr k1 k2 k3 ts ad n (nI tk) KF S U V T) H → va_D (fun q => s.heap.size ≤ q) (wRef cI mo g0 t0 z0 MF g tv z ++ (o, aJ cJ f) :: wRace cI cT r tr k1 k2 k3 ts ad n (nI tk) KF S U V T) → va_S (fun q => s.heap.size ≤ q) s.heap H locs → lv_has ls 9 [(4, .int (nI (6 * k))), (0, .ref b), (1, .ref r), (2, .ref mo), (3, .ref o)] → W p l e room_1 s m args below meth c H locs (20 + 6 * k) (600 + 60 * k) Q (F0 m 180 ls []) := by
  intro f ad n ns tk KF S U V T MF g tv z H locs ls hR htk hP hD hS hl
  obtain ⟨hx, hb, hml, hown, hts, hX, hbl, hK, hJ, hXS, hXN, hXZ, hl9⟩ := id C
  have hA : ∀ q : Nat, s.heap.size ≤ q → (fun q : Nat => s.heap.size ≤ q) q := fun _ h => h
  have hbA : ¬ (fun q : Nat => s.heap.size ≤ q) b := Nat.not_le.mpr hbl
  obtain ⟨y1, ey1⟩ : ∃ y, y = xs (nI (6 * k) + nI 1).toNatClampNeg := ⟨_, rfl⟩
  obtain ⟨y2, ey2⟩ : ∃ y, y = xs (nI (6 * k) + nI 2).toNatClampNeg := ⟨_, rfl⟩
  obtain ⟨y3, ey3⟩ : ∃ y, y = xs (nI (6 * k) + nI 3).toNatClampNeg := ⟨_, rfl⟩
  have hq := q_lay hR y1 y2 y3
  obtain ⟨z9, hz⟩ : ∃ z9, z9 = hcode hc12 (rLay y1 y2 y3 KF S ns) := ⟨_, rfl⟩
  obtain ⟨v9, ev⟩ : ∃ v9, v9 = (mLay y1 y2 y3 MF g ns).1 := ⟨_, rfl⟩
  refine lv_aload_n hx hb dL_law_180 rfl (lv_at hl 2 rfl) ?_
  refine lv_aload_n hx hb dL_law_181 rfl (lv_at hl 1 rfl) ?_
  refine lv_iload hx hb dL_law_182 (lv_at hl 0 rfl) ?_
  refine lv_iconst (v := 1) hx hb dL_law_184 (by decide) ?_
  refine lv_iadd hx hb dL_law_185 ?_
  refine va_sld hx hb hX hbl hbA hS (ix_in (j := 1) (by omega) hL) dL_law_186 ?_
  refine sp_top ey1.symm ?_
  refine lv_aload_n hx hb dL_law_187 rfl (lv_at hl 1 rfl) ?_
  refine lv_iload hx hb dL_law_188 (lv_at hl 0 rfl) ?_
  refine lv_iconst (v := 2) hx hb dL_law_190 (by decide) ?_
  refine lv_iadd hx hb dL_law_191 ?_
  refine va_sld hx hb hX hbl hbA hS (ix_in (j := 2) (by omega) hL) dL_law_192 ?_
  refine sp_top ey2.symm ?_
  refine lv_aload_n hx hb dL_law_193 rfl (lv_at hl 1 rfl) ?_
  refine lv_iload hx hb dL_law_194 (lv_at hl 0 rfl) ?_
  refine lv_iconst (v := 3) hx hb dL_law_196 (by decide) ?_
  refine lv_iadd hx hb dL_law_197 ?_
  refine va_sld hx hb hX hbl hbA hS (ix_in (j := 3) (by omega) hL) dL_law_198 ?_
  refine sp_top ey3.symm ?_
  refine lv_aload_n hx hb dL_law_199 rfl (lv_at hl 4 rfl) ?_
  refine sp_hI (R4 := wRef cI mo g0 t0 z0 MF g tv z) (w := (wRace cI cT r tr k1 k2 k3 ts ad n (nI tk) KF S U V T)) (w' := (wRace cI cT r tr k1 k2 k3 ts ad n (nI tk) (cPutK S ns y1 KF) (cPut S ns y1 S y1) (cPut S ns y1 U y2) (cPut S ns y1 V y3) T)) (rest := []) (As := [.ref r, .int y1, .int y2, .int y3, .ref o]) ⟨hx, hb, hml, hown, hts⟩ (mL_lay l D cI cT cJ hl9 H.size o f r tr k1 k2 k3 ts ad n hR.n6 (nI tk) KF S U V T ns hR.ns12 hR.k3 y1 y2 y3) (vx_cwSW 5 hts gL_law_L_lay rfl rfl rfl (by decide +kernel) ⟨Nat.le_of_ble_eq_true rfl, Nat.le_of_ble_eq_true rfl⟩) hK hXZ hXS hXN hJ hP hD hS hA (xb_fst rfl cI ad _ _ (n + 2)) rfl hl.1 rfl (Nat.le_of_ble_eq_true rfl) dL_law_200 ⟨show 20 + 6 * k + 1 ≤ 639876 by omega, show 600 + 60 * k + 6 ≤ 7176476 by omega⟩ (fun f2 H locs hf2 hP hD hS => ?_)
  refine sp_top hz.symm ?_
  refine lv_istore (lv' := [(5, .int z9), (4, .int (nI (6 * k))), (0, .ref b), (1, .ref r), (2, .ref mo), (3, .ref o)]) hx hb dL_law_203 hl (by decide) rfl (fun ls hl => ?_)
  refine lv_aload_n hx hb dL_law_205 rfl (lv_at hl 4 rfl) ?_
  refine lv_aload_n hx hb dL_law_206 rfl (lv_at hl 2 rfl) ?_
  refine lv_iload hx hb dL_law_207 (lv_at hl 1 rfl) ?_
  refine lv_iconst (v := 1) hx hb dL_law_209 (by decide) ?_
  refine lv_iadd hx hb dL_law_210 ?_
  refine va_sld hx hb hX hbl hbA hS (ix_in (j := 1) (by omega) hL) dL_law_211 ?_
  refine sp_top ey1.symm ?_
  refine lv_aload_n hx hb dL_law_212 rfl (lv_at hl 2 rfl) ?_
  refine lv_iload hx hb dL_law_213 (lv_at hl 1 rfl) ?_
  refine lv_iconst (v := 2) hx hb dL_law_215 (by decide) ?_
  refine lv_iadd hx hb dL_law_216 ?_
  refine va_sld hx hb hX hbl hbA hS (ix_in (j := 2) (by omega) hL) dL_law_217 ?_
  refine sp_top ey2.symm ?_
  refine lv_aload_n hx hb dL_law_218 rfl (lv_at hl 2 rfl) ?_
  refine lv_iload hx hb dL_law_219 (lv_at hl 1 rfl) ?_
  refine lv_iconst (v := 3) hx hb dL_law_221 (by decide) ?_
  refine lv_iadd hx hb dL_law_222 ?_
  refine va_sld hx hb hX hbl hbA hS (ix_in (j := 3) (by omega) hL) dL_law_223 ?_
  refine sp_top ey3.symm ?_
  refine sp_vIA (rest := []) (As := [.int y1, .int y2, .int y3]) (W1 := wRef cI mo g0 t0 z0 (mLay y1 y2 y3 MF g ns).2.1 (mLay y1 y2 y3 MF g ns).2.2 tv z ++ (o, aJ cJ f2) :: hWd (rLay y1 y2 y3 KF S ns) (wRace cI cT r tr k1 k2 k3 ts ad n (nI tk) KF S U V T) (wRace cI cT r tr k1 k2 k3 ts ad n (nI tk) (cPutK S ns y1 KF) (cPut S ns y1 S y1) (cPut S ns y1 U y2) (cPut S ns y1 V y3) T)) ⟨hx, hb, hml, hown, hts⟩ (mX3_lay l D cI cT mo g0 t0 z0 MF H.size g y1 y2 y3 ns hR.ns0 hR.ns12 hR.m5) (cwV 3 hts gL_law_X3_lay rfl rfl rfl (by decide +kernel) ⟨Nat.le_of_ble_eq_true rfl, Nat.le_of_ble_eq_true rfl⟩) hK hP hD hS hA [0, 1] rfl (fun k q h => by simp at h) (sp_nsub (sp_nod2 hD) [0, 1] (by decide) rfl) rfl rfl rfl (ci := 3) rfl rfl rfl rfl hl.1 rfl (Nat.le_of_ble_eq_true rfl) dL_law_224 ⟨show 20 + 6 * k + 1 + 1 ≤ 639876 by omega, show 600 + 60 * k + 6 + 3 ≤ 7176476 by omega⟩ (fun H locs hP hD hS => ?_)
  refine sp_top ev.symm ?_
  refine lv_istore (lv' := [(6, .int v9), (5, .int z9), (4, .int (nI (6 * k))), (0, .ref b), (1, .ref r), (2, .ref mo), (3, .ref o)]) hx hb dL_law_227 hl (by decide) rfl (fun ls hl => ?_)
  refine lv_aload_n hx hb dL_law_229 rfl (lv_at hl 5 rfl) ?_
  refine sp_rV (rest := []) (As := []) ⟨hx, hb, hml, hown, hts⟩ (mX3_thrown l D cI cT mo g0 t0 z0 (mLay y1 y2 y3 MF g ns).2.1) (cwV 0 hts gL_law_X3_thrown rfl rfl rfl (by decide +kernel) ⟨Nat.le_of_ble_eq_true rfl, Nat.le_of_ble_eq_true rfl⟩) hK (sp_pick hP [0] rfl) (ci := 3) rfl rfl rfl rfl hl.1 rfl (Nat.le_of_ble_eq_true rfl) dL_law_230 ⟨show 20 + 6 * k + 1 + 1 ≤ 639876 by omega, show 600 + 60 * k + 6 + 3 ≤ 7176476 by omega⟩ ?_
  refine sp_top hq.1.1 ?_
  refine sp_top hz.symm ?_
  refine lv_iload hx hb dL_law_233 (lv_at hl 1 rfl) ?_
  refine lv_icmp_eq (tgt := 240) hx hb dL_law_235 (by decide) (fun _ => ?_) (fun cq => absurd rfl cq)
  refine lv_iload hx hb dL_law_240 (lv_at hl 1 rfl) ?_
  refine lv_if_ne (tgt := 257) hx hb dL_law_242 (by decide) (fun cz => ?_) (fun cz => ?_)
  · skip
    refine lv_goto (tgt := 1196) hx hb dL_law_257 (by decide) ?_
    obtain ⟨E, hres⟩ := hcode_nz (fun h => cz (hz.trans h))
    rw [hres] at hP hD
    refine W.widen (k := 20 + 6 * (k + 1)) (n := 600 + 60 * (k + 1)) (by omega) (by omega) ?_
    exact kk f2 ad n ns tk KF S U V T (mLay y1 y2 y3 MF g ns).2.1 (mLay y1 y2 y3 MF g ns).2.2 tv z H locs ls (hq.2.2 E hres) (by omega) hP hD hS (lv_sub hl [2, 3, 4, 5, 6] rfl)
  · skip
    obtain ⟨v, hres⟩ := hcode_z nz12 (hz.symm.trans cz)
    refine lv_aload_n hx hb dL_law_245 rfl (lv_at hl 6 rfl) ?_
    refine lv_iconst (v := 0) hx hb dL_law_246 (by decide) ?_
    refine va_lald hx hb hJ hP 4 0 rfl rfl (show vp_in 0 1 from vp_in_nI (show 0 < 1 by decide) (by decide)) dL_law_247 ?_
    refine sp_topl (show f2 (0 : Int32).toNatClampNeg = Int32.toInt64 v9 from (hf2 v hres).trans (by rw [hq.1.2 v hres, ev])) ?_
    refine lv_iload hx hb dL_law_248 (lv_at hl 0 rfl) ?_
    refine lv_i2l (v := Int32.toInt64 v9) hx hb dL_law_250 rfl ?_
    refine W.lcmp hx hb dL_law_251 ?_
    refine lv_if_eq (tgt := 257) hx hb dL_law_252 (by decide) (fun _ => ?_) (fun c3 => absurd ((lg_cmp_eq _ _).mpr rfl) c3)
    refine lv_goto (tgt := 1196) hx hb dL_law_257 (by decide) ?_
    rw [hres] at hP hD
    obtain ⟨ns2, hR2⟩ := hq.2.1 v hres
    refine W.widen (k := 20 + 6 * (k + 1)) (n := 600 + 60 * (k + 1)) (by omega) (by omega) ?_
    exact kk f2 ad n ns2 tk (cPutK S ns y1 KF) (cPut S ns y1 S y1) (cPut S ns y1 U y2) (cPut S ns y1 V y3) T (mLay y1 y2 y3 MF g ns).2.1 (mLay y1 y2 y3 MF g ns).2.2 tv z H locs ls hR2 (by omega) hP hD hS (lv_sub hl [2, 3, 4, 5, 6] rfl)
set_option maxHeartbeats 4000000 in
set_option maxRecDepth 100000 in
theorem lc_ground0 {p : Program} {l : Launch} {e : Env} {s : State} {m : MethodId} {args : Array Value} {below : List Frame} {meth : Method} {c : Code} {b L : Nat} {xs : Nat → Int32} {D : va_G} {cI cT cJ : ClassId} {Q : State → Prop} {mo g0 t0 z0 o r tr k1 k2 k3 ts k : Nat} (C : LC p l s m args meth c b L xs D cI cT cJ) (hk : 6 * k + 6 ≤ L) (hL : L ≤ 3072) (cg : xs (nI (6 * k) + 2).toNatClampNeg = 0) (kk : ∀ (f : Nat → Int64) (ad : Nat → Nat → Nat) (n ns tk : Nat) (KF S U V : Nat → Int32) (T : Nat → TV) (MF g : Nat → Int32) (tv : Nat → TV) (z : Nat → Int32) (H : Heap) (locs : List Loc) (ls : Array Slot), Rel n ns tk KF S U V T MF g tv → tk ≤ 500 * (k + 1) → va_P D vwCl (wRef cI mo g0 t0 z0 MF g tv z ++ (o, aJ cJ f) :: wRace cI cT r tr k1 k2 k3 ts ad n (nI tk) KF S U V T) H → va_D (fun q => s.heap.size ≤ q) (wRef cI mo g0 t0 z0 MF g tv z ++ (o, aJ cJ f) :: wRace cI cT r tr k1 k2 k3 ts ad n (nI tk) KF S U V T) → va_S (fun q => s.heap.size ≤ q) s.heap H locs → lv_has ls 9 [(4, .int (nI (6 * k))), (0, .ref b), (1, .ref r), (2, .ref mo), (3, .ref o)] → W p l e room_1 s m args below meth c H locs (20 + 6 * (k + 1)) (600 + 60 * (k + 1)) Q (F0 m 1196 ls []))  : ∀ (f : Nat → Int64) (ad : Nat → Nat → Nat) (n ns tk : Nat) (KF S U V : Nat → Int32) (T : Nat → TV) (MF g : Nat → Int32) (tv : Nat → TV) (z : Nat → Int32) (H : Heap) (locs : List Loc) (ls : Array Slot), Rel n ns tk KF S U V T MF g tv → tk ≤ 500 * k → va_P D vwCl (wRef cI mo g0 t0 z0 MF g tv z ++ (o, aJ cJ f) :: wRace cI cT r tr k1 k2 k3 ts ad n (nI tk) KF S U V T) H → va_D (fun q => s.heap.size ≤ q) (wRef cI mo g0 t0 z0 MF g tv z ++ (o, aJ cJ f) :: wRace cI cT r tr k1 k2 k3 ts ad n (nI tk) KF S U V T) → va_S (fun q => s.heap.size ≤ q) s.heap H locs → lv_has ls 9 [(4, .int (nI (6 * k))), (0, .ref b), (1, .ref r), (2, .ref mo), (3, .ref o)] → W p l e room_1 s m args below meth c H locs (20 + 6 * k) (600 + 60 * k) Q (F0 m 260 ls []) := by
  intro f ad n ns tk KF S U V T MF g tv z H locs ls hR htk hP hD hS hl
  obtain ⟨hx, hb, hml, hown, hts, hX, hbl, hK, hJ, hXS, hXN, hXZ, hl9⟩ := id C
  have hA : ∀ q : Nat, s.heap.size ≤ q → (fun q : Nat => s.heap.size ≤ q) q := fun _ h => h
  have hbA : ¬ (fun q : Nat => s.heap.size ≤ q) b := Nat.not_le.mpr hbl
  obtain ⟨y1, ey1⟩ : ∃ y, y = xs (nI (6 * k) + nI 1).toNatClampNeg := ⟨_, rfl⟩
  obtain ⟨y2, ey2⟩ : ∃ y, y = xs (nI (6 * k) + nI 2).toNatClampNeg := ⟨_, rfl⟩
  have cg : y2 = 0 := by rw [ey2]; exact cg
  have hq := q_ground0 hR y1
  obtain ⟨z9, hz⟩ : ∃ z9, z9 = hcode hc1 (rGround y1 S U ns) := ⟨_, rfl⟩
  obtain ⟨v9, ev⟩ : ∃ v9, v9 = (mGround y1 1 MF g ns).1 := ⟨_, rfl⟩
  refine lv_aload_n hx hb dL_law_260 rfl (lv_at hl 2 rfl) ?_
  refine lv_aload_n hx hb dL_law_261 rfl (lv_at hl 1 rfl) ?_
  refine lv_iload hx hb dL_law_262 (lv_at hl 0 rfl) ?_
  refine lv_iconst (v := 1) hx hb dL_law_264 (by decide) ?_
  refine lv_iadd hx hb dL_law_265 ?_
  refine va_sld hx hb hX hbl hbA hS (ix_in (j := 1) (by omega) hL) dL_law_266 ?_
  refine sp_top ey1.symm ?_
  refine lv_aload_n hx hb dL_law_267 rfl (lv_at hl 1 rfl) ?_
  refine lv_iload hx hb dL_law_268 (lv_at hl 0 rfl) ?_
  refine lv_iconst (v := 2) hx hb dL_law_270 (by decide) ?_
  refine lv_iadd hx hb dL_law_271 ?_
  refine va_sld hx hb hX hbl hbA hS (ix_in (j := 2) (by omega) hL) dL_law_272 ?_
  refine sp_top ey2.symm ?_
  refine lv_if_eq (tgt := 280) hx hb dL_law_273 (by decide) (fun _ => ?_) (fun c2 => absurd cg c2)
  refine lv_iconst (v := 0) hx hb dL_law_280 (by decide) ?_
  refine lv_aload_n hx hb dL_law_281 rfl (lv_at hl 4 rfl) ?_
  refine sp_hI (R4 := wRef cI mo g0 t0 z0 MF g tv z) (w := (wRace cI cT r tr k1 k2 k3 ts ad n (nI tk) KF S U V T)) (w' := (wRace cI cT r tr k1 k2 k3 ts ad n (nI tk) KF S U V T)) (rest := []) (As := [.ref r, .int y1, .int 0, .ref o]) ⟨hx, hb, hml, hown, hts⟩ (mL_ground0 l D cI cT cJ hl9 H.size o f r tr k1 k2 k3 ts ad n hR.n6 (nI tk) KF S U V T ns hR.ns12 hR.k3 y1) (vx_cwSW 4 hts gL_law_L_ground rfl rfl rfl (by decide +kernel) ⟨Nat.le_of_ble_eq_true rfl, Nat.le_of_ble_eq_true rfl⟩) hK hXZ hXS hXN hJ hP hD hS hA (xb_fst rfl cI ad _ _ (n + 2)) rfl hl.1 rfl (Nat.le_of_ble_eq_true rfl) dL_law_282 ⟨show 20 + 6 * k + 1 ≤ 639876 by omega, show 600 + 60 * k + 6 ≤ 7176476 by omega⟩ (fun f2 H locs hf2 hP hD hS => ?_)
  refine sp_top hz.symm ?_
  refine lv_istore (lv' := [(5, .int z9), (4, .int (nI (6 * k))), (0, .ref b), (1, .ref r), (2, .ref mo), (3, .ref o)]) hx hb dL_law_285 hl (by decide) rfl (fun ls hl => ?_)
  refine lv_aload_n hx hb dL_law_287 rfl (lv_at hl 4 rfl) ?_
  refine lv_aload_n hx hb dL_law_288 rfl (lv_at hl 2 rfl) ?_
  refine lv_iload hx hb dL_law_289 (lv_at hl 1 rfl) ?_
  refine lv_iconst (v := 1) hx hb dL_law_291 (by decide) ?_
  refine lv_iadd hx hb dL_law_292 ?_
  refine va_sld hx hb hX hbl hbA hS (ix_in (j := 1) (by omega) hL) dL_law_293 ?_
  refine sp_top ey1.symm ?_
  refine lv_aload_n hx hb dL_law_294 rfl (lv_at hl 2 rfl) ?_
  refine lv_iload hx hb dL_law_295 (lv_at hl 1 rfl) ?_
  refine lv_iconst (v := 2) hx hb dL_law_297 (by decide) ?_
  refine lv_iadd hx hb dL_law_298 ?_
  refine va_sld hx hb hX hbl hbA hS (ix_in (j := 2) (by omega) hL) dL_law_299 ?_
  refine sp_top ey2.symm ?_
  refine lv_if_eq (tgt := 307) hx hb dL_law_300 (by decide) (fun _ => ?_) (fun c2 => absurd cg c2)
  refine lv_iconst (v := 0) hx hb dL_law_307 (by decide) ?_
  refine sp_vI (rest := []) (As := [.int y1, .int 0]) (W1 := wRef cI mo g0 t0 z0 (mGround y1 1 MF g ns).2 g tv z ++ (o, aJ cJ f2) :: hWd (rGround y1 S U ns) (wRace cI cT r tr k1 k2 k3 ts ad n (nI tk) KF S U V T) (wRace cI cT r tr k1 k2 k3 ts ad n (nI tk) KF S U V T)) ⟨hx, hb, hml, hown, hts⟩ (mX3_ground0 l D cI cT mo g0 t0 z0 MF g y1 ns hR.ns0 hR.ns12 hR.m5) (cwV 2 hts gL_law_X3_ground rfl rfl rfl (by decide +kernel) ⟨Nat.le_of_ble_eq_true rfl, Nat.le_of_ble_eq_true rfl⟩) hK hP hD hS [0, 1] rfl (fun k q h => by simp at h) (sp_nsub (sp_nod2 hD) [0, 1] (by decide) rfl) rfl rfl rfl (ci := 3) rfl rfl rfl rfl hl.1 rfl (Nat.le_of_ble_eq_true rfl) dL_law_308 ⟨show 20 + 6 * k + 1 ≤ 639876 by omega, show 600 + 60 * k + 6 ≤ 7176476 by omega⟩ (fun H locs hP hD hS => ?_)
  refine sp_top ev.symm ?_
  refine lv_istore (lv' := [(6, .int v9), (5, .int z9), (4, .int (nI (6 * k))), (0, .ref b), (1, .ref r), (2, .ref mo), (3, .ref o)]) hx hb dL_law_311 hl (by decide) rfl (fun ls hl => ?_)
  refine lv_aload_n hx hb dL_law_313 rfl (lv_at hl 5 rfl) ?_
  refine sp_rV (rest := []) (As := []) ⟨hx, hb, hml, hown, hts⟩ (mX3_thrown l D cI cT mo g0 t0 z0 (mGround y1 1 MF g ns).2) (cwV 0 hts gL_law_X3_thrown rfl rfl rfl (by decide +kernel) ⟨Nat.le_of_ble_eq_true rfl, Nat.le_of_ble_eq_true rfl⟩) hK (sp_pick hP [0] rfl) (ci := 3) rfl rfl rfl rfl hl.1 rfl (Nat.le_of_ble_eq_true rfl) dL_law_314 ⟨show 20 + 6 * k + 1 ≤ 639876 by omega, show 600 + 60 * k + 6 ≤ 7176476 by omega⟩ ?_
  refine sp_top hq.1.1 ?_
  refine sp_top hz.symm ?_
  refine lv_iload hx hb dL_law_317 (lv_at hl 1 rfl) ?_
  refine lv_icmp_eq (tgt := 324) hx hb dL_law_319 (by decide) (fun _ => ?_) (fun cq => absurd rfl cq)
  refine lv_iload hx hb dL_law_324 (lv_at hl 1 rfl) ?_
  refine lv_if_ne (tgt := 341) hx hb dL_law_326 (by decide) (fun cz => ?_) (fun cz => ?_)
  · skip
    refine lv_goto (tgt := 1196) hx hb dL_law_341 (by decide) ?_
    obtain ⟨E, hres⟩ := hcode_nz (fun h => cz (hz.trans h))
    rw [hres] at hP hD
    refine W.widen (k := 20 + 6 * (k + 1)) (n := 600 + 60 * (k + 1)) (by omega) (by omega) ?_
    exact kk f2 ad n ns tk KF S U V T (mGround y1 1 MF g ns).2 g tv z H locs ls (hq.2.2 E hres) (by omega) hP hD hS (lv_sub hl [2, 3, 4, 5, 6] rfl)
  · skip
    obtain ⟨v, hres⟩ := hcode_z nz1 (hz.symm.trans cz)
    refine lv_aload_n hx hb dL_law_329 rfl (lv_at hl 6 rfl) ?_
    refine lv_iconst (v := 0) hx hb dL_law_330 (by decide) ?_
    refine va_lald hx hb hJ hP 4 0 rfl rfl (show vp_in 0 1 from vp_in_nI (show 0 < 1 by decide) (by decide)) dL_law_331 ?_
    refine sp_topl (show f2 (0 : Int32).toNatClampNeg = Int32.toInt64 v9 from (hf2 v hres).trans (by rw [hq.1.2 v hres, ev])) ?_
    refine lv_iload hx hb dL_law_332 (lv_at hl 0 rfl) ?_
    refine lv_i2l (v := Int32.toInt64 v9) hx hb dL_law_334 rfl ?_
    refine W.lcmp hx hb dL_law_335 ?_
    refine lv_if_eq (tgt := 341) hx hb dL_law_336 (by decide) (fun _ => ?_) (fun c3 => absurd ((lg_cmp_eq _ _).mpr rfl) c3)
    refine lv_goto (tgt := 1196) hx hb dL_law_341 (by decide) ?_
    rw [hres] at hP hD
    refine W.widen (k := 20 + 6 * (k + 1)) (n := 600 + 60 * (k + 1)) (by omega) (by omega) ?_
    exact kk f2 ad n ns tk KF S U V T (mGround y1 1 MF g ns).2 g tv z H locs ls (hq.2.1 v hres) (by omega) hP hD hS (lv_sub hl [2, 3, 4, 5, 6] rfl)
set_option maxHeartbeats 4000000 in
set_option maxRecDepth 100000 in
theorem lc_ground1 {p : Program} {l : Launch} {e : Env} {s : State} {m : MethodId} {args : Array Value} {below : List Frame} {meth : Method} {c : Code} {b L : Nat} {xs : Nat → Int32} {D : va_G} {cI cT cJ : ClassId} {Q : State → Prop} {mo g0 t0 z0 o r tr k1 k2 k3 ts k : Nat} (C : LC p l s m args meth c b L xs D cI cT cJ) (hk : 6 * k + 6 ≤ L) (hL : L ≤ 3072) (cg : ¬ xs (nI (6 * k) + 2).toNatClampNeg = 0) (kk : ∀ (f : Nat → Int64) (ad : Nat → Nat → Nat) (n ns tk : Nat) (KF S U V : Nat → Int32) (T : Nat → TV) (MF g : Nat → Int32) (tv : Nat → TV) (z : Nat → Int32) (H : Heap) (locs : List Loc) (ls : Array Slot), Rel n ns tk KF S U V T MF g tv → tk ≤ 500 * (k + 1) → va_P D vwCl (wRef cI mo g0 t0 z0 MF g tv z ++ (o, aJ cJ f) :: wRace cI cT r tr k1 k2 k3 ts ad n (nI tk) KF S U V T) H → va_D (fun q => s.heap.size ≤ q) (wRef cI mo g0 t0 z0 MF g tv z ++ (o, aJ cJ f) :: wRace cI cT r tr k1 k2 k3 ts ad n (nI tk) KF S U V T) → va_S (fun q => s.heap.size ≤ q) s.heap H locs → lv_has ls 9 [(4, .int (nI (6 * k))), (0, .ref b), (1, .ref r), (2, .ref mo), (3, .ref o)] → W p l e room_1 s m args below meth c H locs (20 + 6 * (k + 1)) (600 + 60 * (k + 1)) Q (F0 m 1196 ls []))  : ∀ (f : Nat → Int64) (ad : Nat → Nat → Nat) (n ns tk : Nat) (KF S U V : Nat → Int32) (T : Nat → TV) (MF g : Nat → Int32) (tv : Nat → TV) (z : Nat → Int32) (H : Heap) (locs : List Loc) (ls : Array Slot), Rel n ns tk KF S U V T MF g tv → tk ≤ 500 * k → va_P D vwCl (wRef cI mo g0 t0 z0 MF g tv z ++ (o, aJ cJ f) :: wRace cI cT r tr k1 k2 k3 ts ad n (nI tk) KF S U V T) H → va_D (fun q => s.heap.size ≤ q) (wRef cI mo g0 t0 z0 MF g tv z ++ (o, aJ cJ f) :: wRace cI cT r tr k1 k2 k3 ts ad n (nI tk) KF S U V T) → va_S (fun q => s.heap.size ≤ q) s.heap H locs → lv_has ls 9 [(4, .int (nI (6 * k))), (0, .ref b), (1, .ref r), (2, .ref mo), (3, .ref o)] → W p l e room_1 s m args below meth c H locs (20 + 6 * k) (600 + 60 * k) Q (F0 m 260 ls []) := by
  intro f ad n ns tk KF S U V T MF g tv z H locs ls hR htk hP hD hS hl
  obtain ⟨hx, hb, hml, hown, hts, hX, hbl, hK, hJ, hXS, hXN, hXZ, hl9⟩ := id C
  have hA : ∀ q : Nat, s.heap.size ≤ q → (fun q : Nat => s.heap.size ≤ q) q := fun _ h => h
  have hbA : ¬ (fun q : Nat => s.heap.size ≤ q) b := Nat.not_le.mpr hbl
  obtain ⟨y1, ey1⟩ : ∃ y, y = xs (nI (6 * k) + nI 1).toNatClampNeg := ⟨_, rfl⟩
  obtain ⟨y2, ey2⟩ : ∃ y, y = xs (nI (6 * k) + nI 2).toNatClampNeg := ⟨_, rfl⟩
  have cg : ¬ y2 = 0 := by rw [ey2]; exact cg
  have hq := q_ground1 hR y1
  obtain ⟨z9, hz⟩ : ∃ z9, z9 = hcode hc1 (rGround y1 S V ns) := ⟨_, rfl⟩
  obtain ⟨v9, ev⟩ : ∃ v9, v9 = (mGround y1 2 MF g ns).1 := ⟨_, rfl⟩
  refine lv_aload_n hx hb dL_law_260 rfl (lv_at hl 2 rfl) ?_
  refine lv_aload_n hx hb dL_law_261 rfl (lv_at hl 1 rfl) ?_
  refine lv_iload hx hb dL_law_262 (lv_at hl 0 rfl) ?_
  refine lv_iconst (v := 1) hx hb dL_law_264 (by decide) ?_
  refine lv_iadd hx hb dL_law_265 ?_
  refine va_sld hx hb hX hbl hbA hS (ix_in (j := 1) (by omega) hL) dL_law_266 ?_
  refine sp_top ey1.symm ?_
  refine lv_aload_n hx hb dL_law_267 rfl (lv_at hl 1 rfl) ?_
  refine lv_iload hx hb dL_law_268 (lv_at hl 0 rfl) ?_
  refine lv_iconst (v := 2) hx hb dL_law_270 (by decide) ?_
  refine lv_iadd hx hb dL_law_271 ?_
  refine va_sld hx hb hX hbl hbA hS (ix_in (j := 2) (by omega) hL) dL_law_272 ?_
  refine sp_top ey2.symm ?_
  refine lv_if_eq (tgt := 280) hx hb dL_law_273 (by decide) (fun c2 => absurd c2 cg) (fun _ => ?_)
  refine lv_iconst (v := 1) hx hb dL_law_276 (by decide) ?_
  refine lv_goto (tgt := 281) hx hb dL_law_277 (by decide) ?_
  refine lv_aload_n hx hb dL_law_281 rfl (lv_at hl 4 rfl) ?_
  refine sp_hI (R4 := wRef cI mo g0 t0 z0 MF g tv z) (w := (wRace cI cT r tr k1 k2 k3 ts ad n (nI tk) KF S U V T)) (w' := (wRace cI cT r tr k1 k2 k3 ts ad n (nI tk) KF S U V T)) (rest := []) (As := [.ref r, .int y1, .int 1, .ref o]) ⟨hx, hb, hml, hown, hts⟩ (mL_ground1 l D cI cT cJ hl9 H.size o f r tr k1 k2 k3 ts ad n hR.n6 (nI tk) KF S U V T ns hR.ns12 hR.k3 y1) (vx_cwSW 4 hts gL_law_L_ground rfl rfl rfl (by decide +kernel) ⟨Nat.le_of_ble_eq_true rfl, Nat.le_of_ble_eq_true rfl⟩) hK hXZ hXS hXN hJ hP hD hS hA (xb_fst rfl cI ad _ _ (n + 2)) rfl hl.1 rfl (Nat.le_of_ble_eq_true rfl) dL_law_282 ⟨show 20 + 6 * k + 1 ≤ 639876 by omega, show 600 + 60 * k + 6 ≤ 7176476 by omega⟩ (fun f2 H locs hf2 hP hD hS => ?_)
  refine sp_top hz.symm ?_
  refine lv_istore (lv' := [(5, .int z9), (4, .int (nI (6 * k))), (0, .ref b), (1, .ref r), (2, .ref mo), (3, .ref o)]) hx hb dL_law_285 hl (by decide) rfl (fun ls hl => ?_)
  refine lv_aload_n hx hb dL_law_287 rfl (lv_at hl 4 rfl) ?_
  refine lv_aload_n hx hb dL_law_288 rfl (lv_at hl 2 rfl) ?_
  refine lv_iload hx hb dL_law_289 (lv_at hl 1 rfl) ?_
  refine lv_iconst (v := 1) hx hb dL_law_291 (by decide) ?_
  refine lv_iadd hx hb dL_law_292 ?_
  refine va_sld hx hb hX hbl hbA hS (ix_in (j := 1) (by omega) hL) dL_law_293 ?_
  refine sp_top ey1.symm ?_
  refine lv_aload_n hx hb dL_law_294 rfl (lv_at hl 2 rfl) ?_
  refine lv_iload hx hb dL_law_295 (lv_at hl 1 rfl) ?_
  refine lv_iconst (v := 2) hx hb dL_law_297 (by decide) ?_
  refine lv_iadd hx hb dL_law_298 ?_
  refine va_sld hx hb hX hbl hbA hS (ix_in (j := 2) (by omega) hL) dL_law_299 ?_
  refine sp_top ey2.symm ?_
  refine lv_if_eq (tgt := 307) hx hb dL_law_300 (by decide) (fun c2 => absurd c2 cg) (fun _ => ?_)
  refine lv_iconst (v := 1) hx hb dL_law_303 (by decide) ?_
  refine lv_goto (tgt := 308) hx hb dL_law_304 (by decide) ?_
  refine sp_vI (rest := []) (As := [.int y1, .int 1]) (W1 := wRef cI mo g0 t0 z0 (mGround y1 2 MF g ns).2 g tv z ++ (o, aJ cJ f2) :: hWd (rGround y1 S V ns) (wRace cI cT r tr k1 k2 k3 ts ad n (nI tk) KF S U V T) (wRace cI cT r tr k1 k2 k3 ts ad n (nI tk) KF S U V T)) ⟨hx, hb, hml, hown, hts⟩ (mX3_ground1 l D cI cT mo g0 t0 z0 MF g y1 ns hR.ns0 hR.ns12 hR.m5) (cwV 2 hts gL_law_X3_ground rfl rfl rfl (by decide +kernel) ⟨Nat.le_of_ble_eq_true rfl, Nat.le_of_ble_eq_true rfl⟩) hK hP hD hS [0, 1] rfl (fun k q h => by simp at h) (sp_nsub (sp_nod2 hD) [0, 1] (by decide) rfl) rfl rfl rfl (ci := 3) rfl rfl rfl rfl hl.1 rfl (Nat.le_of_ble_eq_true rfl) dL_law_308 ⟨show 20 + 6 * k + 1 ≤ 639876 by omega, show 600 + 60 * k + 6 ≤ 7176476 by omega⟩ (fun H locs hP hD hS => ?_)
  refine sp_top ev.symm ?_
  refine lv_istore (lv' := [(6, .int v9), (5, .int z9), (4, .int (nI (6 * k))), (0, .ref b), (1, .ref r), (2, .ref mo), (3, .ref o)]) hx hb dL_law_311 hl (by decide) rfl (fun ls hl => ?_)
  refine lv_aload_n hx hb dL_law_313 rfl (lv_at hl 5 rfl) ?_
  refine sp_rV (rest := []) (As := []) ⟨hx, hb, hml, hown, hts⟩ (mX3_thrown l D cI cT mo g0 t0 z0 (mGround y1 2 MF g ns).2) (cwV 0 hts gL_law_X3_thrown rfl rfl rfl (by decide +kernel) ⟨Nat.le_of_ble_eq_true rfl, Nat.le_of_ble_eq_true rfl⟩) hK (sp_pick hP [0] rfl) (ci := 3) rfl rfl rfl rfl hl.1 rfl (Nat.le_of_ble_eq_true rfl) dL_law_314 ⟨show 20 + 6 * k + 1 ≤ 639876 by omega, show 600 + 60 * k + 6 ≤ 7176476 by omega⟩ ?_
  refine sp_top hq.1.1 ?_
  refine sp_top hz.symm ?_
  refine lv_iload hx hb dL_law_317 (lv_at hl 1 rfl) ?_
  refine lv_icmp_eq (tgt := 324) hx hb dL_law_319 (by decide) (fun _ => ?_) (fun cq => absurd rfl cq)
  refine lv_iload hx hb dL_law_324 (lv_at hl 1 rfl) ?_
  refine lv_if_ne (tgt := 341) hx hb dL_law_326 (by decide) (fun cz => ?_) (fun cz => ?_)
  · skip
    refine lv_goto (tgt := 1196) hx hb dL_law_341 (by decide) ?_
    obtain ⟨E, hres⟩ := hcode_nz (fun h => cz (hz.trans h))
    rw [hres] at hP hD
    refine W.widen (k := 20 + 6 * (k + 1)) (n := 600 + 60 * (k + 1)) (by omega) (by omega) ?_
    exact kk f2 ad n ns tk KF S U V T (mGround y1 2 MF g ns).2 g tv z H locs ls (hq.2.2 E hres) (by omega) hP hD hS (lv_sub hl [2, 3, 4, 5, 6] rfl)
  · skip
    obtain ⟨v, hres⟩ := hcode_z nz1 (hz.symm.trans cz)
    refine lv_aload_n hx hb dL_law_329 rfl (lv_at hl 6 rfl) ?_
    refine lv_iconst (v := 0) hx hb dL_law_330 (by decide) ?_
    refine va_lald hx hb hJ hP 4 0 rfl rfl (show vp_in 0 1 from vp_in_nI (show 0 < 1 by decide) (by decide)) dL_law_331 ?_
    refine sp_topl (show f2 (0 : Int32).toNatClampNeg = Int32.toInt64 v9 from (hf2 v hres).trans (by rw [hq.1.2 v hres, ev])) ?_
    refine lv_iload hx hb dL_law_332 (lv_at hl 0 rfl) ?_
    refine lv_i2l (v := Int32.toInt64 v9) hx hb dL_law_334 rfl ?_
    refine W.lcmp hx hb dL_law_335 ?_
    refine lv_if_eq (tgt := 341) hx hb dL_law_336 (by decide) (fun _ => ?_) (fun c3 => absurd ((lg_cmp_eq _ _).mpr rfl) c3)
    refine lv_goto (tgt := 1196) hx hb dL_law_341 (by decide) ?_
    rw [hres] at hP hD
    refine W.widen (k := 20 + 6 * (k + 1)) (n := 600 + 60 * (k + 1)) (by omega) (by omega) ?_
    exact kk f2 ad n ns tk KF S U V T (mGround y1 2 MF g ns).2 g tv z H locs ls (hq.2.1 v hres) (by omega) hP hD hS (lv_sub hl [2, 3, 4, 5, 6] rfl)
