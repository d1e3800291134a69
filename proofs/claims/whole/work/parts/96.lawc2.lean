/-! The law's body, case by case (addTeam, setCrew) -/
set_option maxHeartbeats 4000000 in
set_option maxRecDepth 100000 in
theorem lc_addTeam {p : Program} {l : Launch} {e : Env} {s : State} {m : MethodId} {args : Array Value} {below : List Frame} {meth : Method} {c : Code} {b L : Nat} {xs : Nat → Int32} {D : va_G} {cI cT cJ : ClassId} {Q : State → Prop} {mo g0 t0 z0 o r tr k1 k2 k3 ts k : Nat} (C : LC p l s m args meth c b L xs D cI cT cJ) (hk : 6 * k + 6 ≤ L) (hL : L ≤ 3072) (kk : ∀ (f : Nat → Int64) (ad : Nat → Nat → Nat) (n ns tk : Nat) (KF S U V : Nat → Int32) (T : Nat → TV) (MF g : Nat → Int32) (tv : Nat → TV) (z : Nat → Int32) (H : Heap) (locs : List Loc) (ls : Array Slot), Rel n ns tk KF S U V T MF g tv → tk ≤ 500 * (k + 1) → va_P D vwCl (wRef cI mo g0 t0 z0 MF g tv z ++ (o, aJ cJ f) :: wRace cI cT r tr k1 k2 k3 ts ad n (nI tk) KF S U V T) H → va_D (fun q => s.heap.size ≤ q) (wRef cI mo g0 t0 z0 MF g tv z ++ (o, aJ cJ f) :: wRace cI cT r tr k1 k2 k3 ts ad n (nI tk) KF S U V T) → va_S (fun q => s.heap.size ≤ q) s.heap H locs → lv_has ls 9 [(4, .int (nI (6 * k))), (0, .ref b), (1, .ref r), (2, .ref mo), (3, .ref o)] → W p l e room_1 s m args below meth c H locs (20 + 6 * (k + 1)) (600 + 60 * (k + 1)) Q (F0 m 1196 ls []))  : ∀ (f : Nat → Int64) (ad : Nat → Nat → Nat) (n ns tk : Nat) (KF S U V : Nat → Int32) (T : Nat → TV) (MF g : Nat → Int32) (tv : Nat → TV) (z : Nat → Int32) (H : Heap) (locs : List Loc) (ls : Array Slot), Rel n ns tk KF S U V T MF g tv → tk ≤ 500 * k → va_P D vwCl (wRef cI mo g0 t0 z0 MF g tv z ++ (o, aJ cJ f) :: wRace cI cT r tr k1 k2 k3 ts ad n (nI tk) KF S U V T) H → va_D (fun q => s.heap.size ≤ q) (wRef cI mo g0 t0 z0 MF g tv z ++ (o, aJ cJ f) :: wRace cI cT r tr k1 k2 k3 ts ad n (nI tk) KF S U V T) → va_S (fun q => s.heap.size ≤ q) s.heap H locs → lv_has ls 9 [(4, .int (nI (6 * k))), (0, .ref b), (1, .ref r), (2, .ref mo), (3, .ref o)] → W p l e room_1 s m args below meth c H locs (20 + 6 * k) (600 + 60 * k) Q (F0 m 344 ls []) := by
  intro f ad n ns tk KF S U V T MF g tv z H locs ls hR htk hP hD hS hl
  obtain ⟨hx, hb, hml, hown, hts, hX, hbl, hK, hJ, hXS, hXN, hXZ, hl9⟩ := id C
  have hA : ∀ q : Nat, s.heap.size ≤ q → (fun q : Nat => s.heap.size ≤ q) q := fun _ h => h
  have hbA : ¬ (fun q : Nat => s.heap.size ≤ q) b := Nat.not_le.mpr hbl
  obtain ⟨y1, ey1⟩ : ∃ y, y = xs (nI (6 * k) + nI 1).toNatClampNeg := ⟨_, rfl⟩
  obtain ⟨y2, ey2⟩ : ∃ y, y = xs (nI (6 * k) + nI 2).toNatClampNeg := ⟨_, rfl⟩
  obtain ⟨y3, ey3⟩ : ∃ y, y = xs (nI (6 * k) + nI 3).toNatClampNeg := ⟨_, rfl⟩
  have hq := q_add hR (by omega) y1 y2 y3
  obtain ⟨z9, hz⟩ : ∃ z9, z9 = hcode hc12 (rAdd y1 y2 y3 n (nI tk)) := ⟨_, rfl⟩
  obtain ⟨v9, ev⟩ : ∃ v9, v9 = (mAddC y1 y2 y3 MF n tv).1 := ⟨_, rfl⟩
  refine lv_aload_n hx hb dL_law_344 rfl (lv_at hl 2 rfl) ?_
  refine lv_aload_n hx hb dL_law_345 rfl (lv_at hl 1 rfl) ?_
  refine lv_iload hx hb dL_law_346 (lv_at hl 0 rfl) ?_
  refine lv_iconst (v := 1) hx hb dL_law_348 (by decide) ?_
  refine lv_iadd hx hb dL_law_349 ?_
  refine va_sld hx hb hX hbl hbA hS (ix_in (j := 1) (by omega) hL) dL_law_350 ?_
  refine sp_top ey1.symm ?_
  refine lv_aload_n hx hb dL_law_351 rfl (lv_at hl 1 rfl) ?_
  refine lv_iload hx hb dL_law_352 (lv_at hl 0 rfl) ?_
  refine lv_iconst (v := 2) hx hb dL_law_354 (by decide) ?_
  refine lv_iadd hx hb dL_law_355 ?_
  refine va_sld hx hb hX hbl hbA hS (ix_in (j := 2) (by omega) hL) dL_law_356 ?_
  refine sp_top ey2.symm ?_
  refine lv_aload_n hx hb dL_law_357 rfl (lv_at hl 1 rfl) ?_
  refine lv_iload hx hb dL_law_358 (lv_at hl 0 rfl) ?_
  refine lv_iconst (v := 3) hx hb dL_law_360 (by decide) ?_
  refine lv_iadd hx hb dL_law_361 ?_
  refine va_sld hx hb hX hbl hbA hS (ix_in (j := 3) (by omega) hL) dL_law_362 ?_
  refine sp_top ey3.symm ?_
  refine lv_aload_n hx hb dL_law_363 rfl (lv_at hl 4 rfl) ?_
  refine sp_hN (R4 := wRef cI mo g0 t0 z0 MF g tv z) (w := (wRace cI cT r tr k1 k2 k3 ts ad n (nI tk) KF S U V T)) (wn := fun u => wRace cI cT r tr k1 k2 k3 ts (adN ad n u) (n + 1) (nI tk) KF S U V (setT T (n + 2) (cTeamNew (nI n) y1 y2 y3.toNatClampNeg))) (rest := []) (As := [.ref r, .int y1, .int y2, .int y3, .ref o]) ⟨hx, hb, hml, hown, hts⟩ (mL_addTeam l D cI cT cJ hl9 H.size o f r tr k1 k2 k3 ts ad n hR.n6 (nI tk) KF S U V T y1 y2 y3) (vx_cwSW 5 hts gL_law_L_addTeam rfl rfl rfl (by decide +kernel) ⟨Nat.le_of_ble_eq_true rfl, Nat.le_of_ble_eq_true rfl⟩) hK hXZ hXS hXN hJ hP hD hS hA rfl hl.1 rfl (Nat.le_of_ble_eq_true rfl) dL_law_364 ⟨show 20 + 6 * k + 5 ≤ 639876 by omega, show 600 + 60 * k + 40 ≤ 7176476 by omega⟩ (fun v0 u f2 H locs hres0 hu hf0 hP hD hS => ?_) (fun E0 f2 H locs hres0 hP hD hS => ?_)
  · skip
    have hf2 : ∀ v, (rAdd y1 y2 y3 n (nI tk)) = .inl v → f2 0 = Int32.toInt64 v := fun v hv => by rw [hres0] at hv; rw [← Sum.inl.inj hv]; exact hf0
    refine sp_top hz.symm ?_
    refine lv_istore (lv' := [(5, .int z9), (4, .int (nI (6 * k))), (0, .ref b), (1, .ref r), (2, .ref mo), (3, .ref o)]) hx hb dL_law_367 hl (by decide) rfl (fun ls hl => ?_)
    refine lv_aload_n hx hb dL_law_369 rfl (lv_at hl 4 rfl) ?_
    refine lv_aload_n hx hb dL_law_370 rfl (lv_at hl 2 rfl) ?_
    refine lv_iload hx hb dL_law_371 (lv_at hl 1 rfl) ?_
    refine lv_iconst (v := 1) hx hb dL_law_373 (by decide) ?_
    refine lv_iadd hx hb dL_law_374 ?_
    refine va_sld hx hb hX hbl hbA hS (ix_in (j := 1) (by omega) hL) dL_law_375 ?_
    refine sp_top ey1.symm ?_
    refine lv_aload_n hx hb dL_law_376 rfl (lv_at hl 2 rfl) ?_
    refine lv_iload hx hb dL_law_377 (lv_at hl 1 rfl) ?_
    refine lv_iconst (v := 2) hx hb dL_law_379 (by decide) ?_
    refine lv_iadd hx hb dL_law_380 ?_
    refine va_sld hx hb hX hbl hbA hS (ix_in (j := 2) (by omega) hL) dL_law_381 ?_
    refine sp_top ey2.symm ?_
    refine lv_aload_n hx hb dL_law_382 rfl (lv_at hl 2 rfl) ?_
    refine lv_iload hx hb dL_law_383 (lv_at hl 1 rfl) ?_
    refine lv_iconst (v := 3) hx hb dL_law_385 (by decide) ?_
    refine lv_iadd hx hb dL_law_386 ?_
    refine va_sld hx hb hX hbl hbA hS (ix_in (j := 3) (by omega) hL) dL_law_387 ?_
    refine sp_top ey3.symm ?_
    refine sp_vIA (rest := []) (As := [.int y1, .int y2, .int y3]) (W1 := wRef cI mo g0 t0 z0 (mAddC y1 y2 y3 MF n tv).2.1 g (mAddC y1 y2 y3 MF n tv).2.2 z ++ (o, aJ cJ f2) :: wRace cI cT r tr k1 k2 k3 ts (adN ad n u) (n + 1) (nI tk) KF S U V (setT T (n + 2) (cTeamNew (nI n) y1 y2 y3.toNatClampNeg))) ⟨hx, hb, hml, hown, hts⟩ (mX3_addTeam l D cI cT mo g0 t0 z0 MF H.size tv y1 y2 y3 n hR.n6 hR.m2) (cwV 3 hts gL_law_X3_addTeam rfl rfl rfl (by decide +kernel) ⟨Nat.le_of_ble_eq_true rfl, Nat.le_of_ble_eq_true rfl⟩) hK hP hD hS hA [0, 2] rfl (fun k q h => by simp at h) (sp_nsub (sp_nod2 hD) [0, 2] (by decide) rfl) rfl rfl rfl (ci := 3) rfl rfl rfl rfl hl.1 rfl (Nat.le_of_ble_eq_true rfl) dL_law_388 ⟨show 20 + 6 * k + 5 + 1 ≤ 639876 by omega, show 600 + 60 * k + 40 + 9 ≤ 7176476 by omega⟩ (fun H locs hP hD hS => ?_)
    refine sp_top ev.symm ?_
    refine lv_istore (lv' := [(6, .int v9), (5, .int z9), (4, .int (nI (6 * k))), (0, .ref b), (1, .ref r), (2, .ref mo), (3, .ref o)]) hx hb dL_law_391 hl (by decide) rfl (fun ls hl => ?_)
    refine lv_aload_n hx hb dL_law_393 rfl (lv_at hl 5 rfl) ?_
    refine sp_rV (rest := []) (As := []) ⟨hx, hb, hml, hown, hts⟩ (mX3_thrown l D cI cT mo g0 t0 z0 (mAddC y1 y2 y3 MF n tv).2.1) (cwV 0 hts gL_law_X3_thrown rfl rfl rfl (by decide +kernel) ⟨Nat.le_of_ble_eq_true rfl, Nat.le_of_ble_eq_true rfl⟩) hK (sp_pick hP [0] rfl) (ci := 3) rfl rfl rfl rfl hl.1 rfl (Nat.le_of_ble_eq_true rfl) dL_law_394 ⟨show 20 + 6 * k + 5 + 1 ≤ 639876 by omega, show 600 + 60 * k + 40 + 9 ≤ 7176476 by omega⟩ ?_
    refine sp_top hq.1.1 ?_
    refine sp_top hz.symm ?_
    refine lv_iload hx hb dL_law_397 (lv_at hl 1 rfl) ?_
    refine lv_icmp_eq (tgt := 404) hx hb dL_law_399 (by decide) (fun _ => ?_) (fun cq => absurd rfl cq)
    refine lv_iload hx hb dL_law_404 (lv_at hl 1 rfl) ?_
    refine lv_if_ne (tgt := 421) hx hb dL_law_406 (by decide) (fun cz => ?_) (fun cz => ?_)
    · skip
      refine lv_goto (tgt := 1196) hx hb dL_law_421 (by decide) ?_
      obtain ⟨E, hres⟩ := hcode_nz (fun h => cz (hz.trans h))
      rw [hres0] at hres; cases hres
    · skip
      obtain ⟨v, hres⟩ := hcode_z nz12 (hz.symm.trans cz)
      refine lv_aload_n hx hb dL_law_409 rfl (lv_at hl 6 rfl) ?_
      refine lv_iconst (v := 0) hx hb dL_law_410 (by decide) ?_
      refine va_lald hx hb hJ hP 4 0 rfl rfl (show vp_in 0 1 from vp_in_nI (show 0 < 1 by decide) (by decide)) dL_law_411 ?_
      refine sp_topl (show f2 (0 : Int32).toNatClampNeg = Int32.toInt64 v9 from (hf2 v hres).trans (by rw [hq.1.2 v hres, ev])) ?_
      refine lv_iload hx hb dL_law_412 (lv_at hl 0 rfl) ?_
      refine lv_i2l (v := Int32.toInt64 v9) hx hb dL_law_414 rfl ?_
      refine W.lcmp hx hb dL_law_415 ?_
      refine lv_if_eq (tgt := 421) hx hb dL_law_416 (by decide) (fun _ => ?_) (fun c3 => absurd ((lg_cmp_eq _ _).mpr rfl) c3)
      refine lv_goto (tgt := 1196) hx hb dL_law_421 (by decide) ?_
      refine W.widen (k := 20 + 6 * (k + 1)) (n := 600 + 60 * (k + 1)) (by omega) (by omega) ?_
      exact kk f2 (adN ad n u) (n + 1) ns tk KF S U V _ (mAddC y1 y2 y3 MF n tv).2.1 g (mAddC y1 y2 y3 MF n tv).2.2 z H locs ls (hq.2.1 v hres).2 (by omega) hP hD hS (lv_sub hl [2, 3, 4, 5, 6] rfl)
  · skip
    have hf2 : ∀ v, (rAdd y1 y2 y3 n (nI tk)) = .inl v → f2 0 = Int32.toInt64 v := fun v hv => by rw [hres0] at hv; cases hv
    refine sp_top hz.symm ?_
    refine lv_istore (lv' := [(5, .int z9), (4, .int (nI (6 * k))), (0, .ref b), (1, .ref r), (2, .ref mo), (3, .ref o)]) hx hb dL_law_367 hl (by decide) rfl (fun ls hl => ?_)
    refine lv_aload_n hx hb dL_law_369 rfl (lv_at hl 4 rfl) ?_
    refine lv_aload_n hx hb dL_law_370 rfl (lv_at hl 2 rfl) ?_
    refine lv_iload hx hb dL_law_371 (lv_at hl 1 rfl) ?_
    refine lv_iconst (v := 1) hx hb dL_law_373 (by decide) ?_
    refine lv_iadd hx hb dL_law_374 ?_
    refine va_sld hx hb hX hbl hbA hS (ix_in (j := 1) (by omega) hL) dL_law_375 ?_
    refine sp_top ey1.symm ?_
    refine lv_aload_n hx hb dL_law_376 rfl (lv_at hl 2 rfl) ?_
    refine lv_iload hx hb dL_law_377 (lv_at hl 1 rfl) ?_
    refine lv_iconst (v := 2) hx hb dL_law_379 (by decide) ?_
    refine lv_iadd hx hb dL_law_380 ?_
    refine va_sld hx hb hX hbl hbA hS (ix_in (j := 2) (by omega) hL) dL_law_381 ?_
    refine sp_top ey2.symm ?_
    refine lv_aload_n hx hb dL_law_382 rfl (lv_at hl 2 rfl) ?_
    refine lv_iload hx hb dL_law_383 (lv_at hl 1 rfl) ?_
    refine lv_iconst (v := 3) hx hb dL_law_385 (by decide) ?_
    refine lv_iadd hx hb dL_law_386 ?_
    refine va_sld hx hb hX hbl hbA hS (ix_in (j := 3) (by omega) hL) dL_law_387 ?_
    refine sp_top ey3.symm ?_
    refine sp_vIA (rest := []) (As := [.int y1, .int y2, .int y3]) (W1 := wRef cI mo g0 t0 z0 (mAddC y1 y2 y3 MF n tv).2.1 g (mAddC y1 y2 y3 MF n tv).2.2 z ++ (o, aJ cJ f2) :: (wRace cI cT r tr k1 k2 k3 ts ad n (nI tk) KF S U V T)) ⟨hx, hb, hml, hown, hts⟩ (mX3_addTeam l D cI cT mo g0 t0 z0 MF H.size tv y1 y2 y3 n hR.n6 hR.m2) (cwV 3 hts gL_law_X3_addTeam rfl rfl rfl (by decide +kernel) ⟨Nat.le_of_ble_eq_true rfl, Nat.le_of_ble_eq_true rfl⟩) hK hP hD hS hA [0, 2] rfl (fun k q h => by simp at h) (sp_nsub (sp_nod2 hD) [0, 2] (by decide) rfl) rfl rfl rfl (ci := 3) rfl rfl rfl rfl hl.1 rfl (Nat.le_of_ble_eq_true rfl) dL_law_388 ⟨show 20 + 6 * k + 5 + 1 ≤ 639876 by omega, show 600 + 60 * k + 40 + 9 ≤ 7176476 by omega⟩ (fun H locs hP hD hS => ?_)
    refine sp_top ev.symm ?_
    refine lv_istore (lv' := [(6, .int v9), (5, .int z9), (4, .int (nI (6 * k))), (0, .ref b), (1, .ref r), (2, .ref mo), (3, .ref o)]) hx hb dL_law_391 hl (by decide) rfl (fun ls hl => ?_)
    refine lv_aload_n hx hb dL_law_393 rfl (lv_at hl 5 rfl) ?_
    refine sp_rV (rest := []) (As := []) ⟨hx, hb, hml, hown, hts⟩ (mX3_thrown l D cI cT mo g0 t0 z0 (mAddC y1 y2 y3 MF n tv).2.1) (cwV 0 hts gL_law_X3_thrown rfl rfl rfl (by decide +kernel) ⟨Nat.le_of_ble_eq_true rfl, Nat.le_of_ble_eq_true rfl⟩) hK (sp_pick hP [0] rfl) (ci := 3) rfl rfl rfl rfl hl.1 rfl (Nat.le_of_ble_eq_true rfl) dL_law_394 ⟨show 20 + 6 * k + 5 + 1 ≤ 639876 by omega, show 600 + 60 * k + 40 + 9 ≤ 7176476 by omega⟩ ?_
    refine sp_top hq.1.1 ?_
    refine sp_top hz.symm ?_
    refine lv_iload hx hb dL_law_397 (lv_at hl 1 rfl) ?_
    refine lv_icmp_eq (tgt := 404) hx hb dL_law_399 (by decide) (fun _ => ?_) (fun cq => absurd rfl cq)
    refine lv_iload hx hb dL_law_404 (lv_at hl 1 rfl) ?_
    refine lv_if_ne (tgt := 421) hx hb dL_law_406 (by decide) (fun cz => ?_) (fun cz => ?_)
    · skip
      refine lv_goto (tgt := 1196) hx hb dL_law_421 (by decide) ?_
      obtain ⟨E, hres⟩ := hcode_nz (fun h => cz (hz.trans h))
      refine W.widen (k := 20 + 6 * (k + 1)) (n := 600 + 60 * (k + 1)) (by omega) (by omega) ?_
      exact kk f2 ad n ns tk KF S U V T (mAddC y1 y2 y3 MF n tv).2.1 g (mAddC y1 y2 y3 MF n tv).2.2 z H locs ls (hq.2.2 E hres) (by omega) hP hD hS (lv_sub hl [2, 3, 4, 5, 6] rfl)
    · skip
      obtain ⟨v, hres⟩ := hcode_z nz12 (hz.symm.trans cz)
      refine lv_aload_n hx hb dL_law_409 rfl (lv_at hl 6 rfl) ?_
      refine lv_iconst (v := 0) hx hb dL_law_410 (by decide) ?_
      refine va_lald hx hb hJ hP 4 0 rfl rfl (show vp_in 0 1 from vp_in_nI (show 0 < 1 by decide) (by decide)) dL_law_411 ?_
      refine sp_topl (show f2 (0 : Int32).toNatClampNeg = Int32.toInt64 v9 from (hf2 v hres).trans (by rw [hq.1.2 v hres, ev])) ?_
      refine lv_iload hx hb dL_law_412 (lv_at hl 0 rfl) ?_
      refine lv_i2l (v := Int32.toInt64 v9) hx hb dL_law_414 rfl ?_
      refine W.lcmp hx hb dL_law_415 ?_
      refine lv_if_eq (tgt := 421) hx hb dL_law_416 (by decide) (fun _ => ?_) (fun c3 => absurd ((lg_cmp_eq _ _).mpr rfl) c3)
      refine lv_goto (tgt := 1196) hx hb dL_law_421 (by decide) ?_
      rw [hres0] at hres; cases hres
set_option maxHeartbeats 4000000 in
set_option maxRecDepth 100000 in
theorem lc_setCrew {p : Program} {l : Launch} {e : Env} {s : State} {m : MethodId} {args : Array Value} {below : List Frame} {meth : Method} {c : Code} {b L : Nat} {xs : Nat → Int32} {D : va_G} {cI cT cJ : ClassId} {Q : State → Prop} {mo g0 t0 z0 o r tr k1 k2 k3 ts k : Nat} (C : LC p l s m args meth c b L xs D cI cT cJ) (hk : 6 * k + 6 ≤ L) (hL : L ≤ 3072) (kk : ∀ (f : Nat → Int64) (ad : Nat → Nat → Nat) (n ns tk : Nat) (KF S U V : Nat → Int32) (T : Nat → TV) (MF g : Nat → Int32) (tv : Nat → TV) (z : Nat → Int32) (H : Heap) (locs : List Loc) (ls : Array Slot), Rel n ns tk KF S U V T MF g tv → tk ≤ 500 * (k + 1) → va_P D vwCl (wRef cI mo g0 t0 z0 MF g tv z ++ (o, aJ cJ f) :: wRace cI cT r tr k1 k2 k3 ts ad n (nI tk) KF S U V T) H → va_D (fun q => s.heap.size ≤ q) (wRef cI mo g0 t0 z0 MF g tv z ++ (o, aJ cJ f) :: wRace cI cT r tr k1 k2 k3 ts ad n (nI tk) KF S U V T) → va_S (fun q => s.heap.size ≤ q) s.heap H locs → lv_has ls 9 [(4, .int (nI (6 * k))), (0, .ref b), (1, .ref r), (2, .ref mo), (3, .ref o)] → W p l e room_1 s m args below meth c H locs (20 + 6 * (k + 1)) (600 + 60 * (k + 1)) Q (F0 m 1196 ls []))  : ∀ (f : Nat → Int64) (ad : Nat → Nat → Nat) (n ns tk : Nat) (KF S U V : Nat → Int32) (T : Nat → TV) (MF g : Nat → Int32) (tv : Nat → TV) (z : Nat → Int32) (H : Heap) (locs : List Loc) (ls : Array Slot), Rel n ns tk KF S U V T MF g tv → tk ≤ 500 * k → va_P D vwCl (wRef cI mo g0 t0 z0 MF g tv z ++ (o, aJ cJ f) :: wRace cI cT r tr k1 k2 k3 ts ad n (nI tk) KF S U V T) H → va_D (fun q => s.heap.size ≤ q) (wRef cI mo g0 t0 z0 MF g tv z ++ (o, aJ cJ f) :: wRace cI cT r tr k1 k2 k3 ts ad n (nI tk) KF S U V T) → va_S (fun q => s.heap.size ≤ q) s.heap H locs → lv_has ls 9 [(4, .int (nI (6 * k))), (0, .ref b), (1, .ref r), (2, .ref mo), (3, .ref o)] → W p l e room_1 s m args below meth c H locs (20 + 6 * k) (600 + 60 * k) Q (F0 m 424 ls []) := by
  intro f ad n ns tk KF S U V T MF g tv z H locs ls hR htk hP hD hS hl
  obtain ⟨hx, hb, hml, hown, hts, hX, hbl, hK, hJ, hXS, hXN, hXZ, hl9⟩ := id C
  have hA : ∀ q : Nat, s.heap.size ≤ q → (fun q : Nat => s.heap.size ≤ q) q := fun _ h => h
  have hbA : ¬ (fun q : Nat => s.heap.size ≤ q) b := Nat.not_le.mpr hbl
  obtain ⟨y1, ey1⟩ : ∃ y, y = xs (nI (6 * k) + nI 1).toNatClampNeg := ⟨_, rfl⟩
  obtain ⟨y2, ey2⟩ : ∃ y, y = xs (nI (6 * k) + nI 2).toNatClampNeg := ⟨_, rfl⟩
  obtain ⟨y3, ey3⟩ : ∃ y, y = xs (nI (6 * k) + nI 3).toNatClampNeg := ⟨_, rfl⟩
  obtain ⟨y4, ey4⟩ : ∃ y, y = xs (nI (6 * k) + nI 4).toNatClampNeg := ⟨_, rfl⟩
  obtain ⟨y5, ey5⟩ : ∃ y, y = xs (nI (6 * k) + nI 5).toNatClampNeg := ⟨_, rfl⟩
  have hq := q_crew hR y1 y2 y3 y4 y5
  obtain ⟨z9, hz⟩ : ∃ z9, z9 = hcode hc123 (rCrew y1 y2 y3 y4 y5 n (nI tk) T) := ⟨_, rfl⟩
  obtain ⟨v9, ev⟩ : ∃ v9, v9 = (mCrewC y1 y2 y3 y4 y5 MF tv).1 := ⟨_, rfl⟩
  refine lv_aload_n hx hb dL_law_424 rfl (lv_at hl 2 rfl) ?_
  refine lv_aload_n hx hb dL_law_425 rfl (lv_at hl 1 rfl) ?_
  refine lv_iload hx hb dL_law_426 (lv_at hl 0 rfl) ?_
  refine lv_iconst (v := 1) hx hb dL_law_428 (by decide) ?_
  refine lv_iadd hx hb dL_law_429 ?_
  refine va_sld hx hb hX hbl hbA hS (ix_in (j := 1) (by omega) hL) dL_law_430 ?_
  refine sp_top ey1.symm ?_
  refine lv_aload_n hx hb dL_law_431 rfl (lv_at hl 1 rfl) ?_
  refine lv_iload hx hb dL_law_432 (lv_at hl 0 rfl) ?_
  refine lv_iconst (v := 2) hx hb dL_law_434 (by decide) ?_
  refine lv_iadd hx hb dL_law_435 ?_
  refine va_sld hx hb hX hbl hbA hS (ix_in (j := 2) (by omega) hL) dL_law_436 ?_
  refine sp_top ey2.symm ?_
  refine lv_aload_n hx hb dL_law_437 rfl (lv_at hl 1 rfl) ?_
  refine lv_iload hx hb dL_law_438 (lv_at hl 0 rfl) ?_
  refine lv_iconst (v := 3) hx hb dL_law_440 (by decide) ?_
  refine lv_iadd hx hb dL_law_441 ?_
  refine va_sld hx hb hX hbl hbA hS (ix_in (j := 3) (by omega) hL) dL_law_442 ?_
  refine sp_top ey3.symm ?_
  refine lv_aload_n hx hb dL_law_443 rfl (lv_at hl 1 rfl) ?_
  refine lv_iload hx hb dL_law_444 (lv_at hl 0 rfl) ?_
  refine lv_iconst (v := 4) hx hb dL_law_446 (by decide) ?_
  refine lv_iadd hx hb dL_law_447 ?_
  refine va_sld hx hb hX hbl hbA hS (ix_in (j := 4) (by omega) hL) dL_law_448 ?_
  refine sp_top ey4.symm ?_
  refine lv_aload_n hx hb dL_law_449 rfl (lv_at hl 1 rfl) ?_
  refine lv_iload hx hb dL_law_450 (lv_at hl 0 rfl) ?_
  refine lv_iconst (v := 5) hx hb dL_law_452 (by decide) ?_
  refine lv_iadd hx hb dL_law_453 ?_
  refine va_sld hx hb hX hbl hbA hS (ix_in (j := 5) (by omega) hL) dL_law_454 ?_
  refine sp_top ey5.symm ?_
  refine lv_aload_n hx hb dL_law_455 rfl (lv_at hl 4 rfl) ?_
  refine sp_hI (R4 := wRef cI mo g0 t0 z0 MF g tv z) (w := (wRace cI cT r tr k1 k2 k3 ts ad n (nI tk) KF S U V T)) (w' := (wRace cI cT r tr k1 k2 k3 ts ad n (nI tk) KF S U V (setT T (y1.toNatClampNeg + 2) (upd (upd (upd (upd (upd (T (y1.toNatClampNeg + 2)).1 4 y2) 5 y3) 6 y4) 7 y5) 12 y5, (T (y1.toNatClampNeg + 2)).2)))) (rest := []) (As := [.ref r, .int y1, .int y2, .int y3, .int y4, .int y5, .ref o]) ⟨hx, hb, hml, hown, hts⟩ (mL_setCrew l D cI cT cJ hl9 H.size o f r tr k1 k2 k3 ts ad n hR.n6 (nI tk) KF S U V T y1 y2 y3 y4 y5) (vx_cwSW 7 hts gL_law_L_setCrew rfl rfl rfl (by decide +kernel) ⟨Nat.le_of_ble_eq_true rfl, Nat.le_of_ble_eq_true rfl⟩) hK hXZ hXS hXN hJ hP hD hS hA (xb_fst rfl cI ad _ _ (n + 2)) rfl hl.1 rfl (Nat.le_of_ble_eq_true rfl) dL_law_456 ⟨show 20 + 6 * k + 2 ≤ 639876 by omega, show 600 + 60 * k + 12 ≤ 7176476 by omega⟩ (fun f2 H locs hf2 hP hD hS => ?_)
  refine sp_top hz.symm ?_
  refine lv_istore (lv' := [(5, .int z9), (4, .int (nI (6 * k))), (0, .ref b), (1, .ref r), (2, .ref mo), (3, .ref o)]) hx hb dL_law_459 hl (by decide) rfl (fun ls hl => ?_)
  refine lv_aload_n hx hb dL_law_461 rfl (lv_at hl 4 rfl) ?_
  refine lv_aload_n hx hb dL_law_462 rfl (lv_at hl 2 rfl) ?_
  refine lv_iload hx hb dL_law_463 (lv_at hl 1 rfl) ?_
  refine lv_iconst (v := 1) hx hb dL_law_465 (by decide) ?_
  refine lv_iadd hx hb dL_law_466 ?_
  refine va_sld hx hb hX hbl hbA hS (ix_in (j := 1) (by omega) hL) dL_law_467 ?_
  refine sp_top ey1.symm ?_
  refine lv_aload_n hx hb dL_law_468 rfl (lv_at hl 2 rfl) ?_
  refine lv_iload hx hb dL_law_469 (lv_at hl 1 rfl) ?_
  refine lv_iconst (v := 2) hx hb dL_law_471 (by decide) ?_
  refine lv_iadd hx hb dL_law_472 ?_
  refine va_sld hx hb hX hbl hbA hS (ix_in (j := 2) (by omega) hL) dL_law_473 ?_
  refine sp_top ey2.symm ?_
  refine lv_aload_n hx hb dL_law_474 rfl (lv_at hl 2 rfl) ?_
  refine lv_iload hx hb dL_law_475 (lv_at hl 1 rfl) ?_
  refine lv_iconst (v := 3) hx hb dL_law_477 (by decide) ?_
  refine lv_iadd hx hb dL_law_478 ?_
  refine va_sld hx hb hX hbl hbA hS (ix_in (j := 3) (by omega) hL) dL_law_479 ?_
  refine sp_top ey3.symm ?_
  refine lv_aload_n hx hb dL_law_480 rfl (lv_at hl 2 rfl) ?_
  refine lv_iload hx hb dL_law_481 (lv_at hl 1 rfl) ?_
  refine lv_iconst (v := 4) hx hb dL_law_483 (by decide) ?_
  refine lv_iadd hx hb dL_law_484 ?_
  refine va_sld hx hb hX hbl hbA hS (ix_in (j := 4) (by omega) hL) dL_law_485 ?_
  refine sp_top ey4.symm ?_
  refine lv_aload_n hx hb dL_law_486 rfl (lv_at hl 2 rfl) ?_
  refine lv_iload hx hb dL_law_487 (lv_at hl 1 rfl) ?_
  refine lv_iconst (v := 5) hx hb dL_law_489 (by decide) ?_
  refine lv_iadd hx hb dL_law_490 ?_
  refine va_sld hx hb hX hbl hbA hS (ix_in (j := 5) (by omega) hL) dL_law_491 ?_
  refine sp_top ey5.symm ?_
  refine sp_vIA (rest := []) (As := [.int y1, .int y2, .int y3, .int y4, .int y5]) (W1 := wRef cI mo g0 t0 z0 (mCrewC y1 y2 y3 y4 y5 MF tv).2.1 g (mCrewC y1 y2 y3 y4 y5 MF tv).2.2 z ++ (o, aJ cJ f2) :: hWd (rCrew y1 y2 y3 y4 y5 n (nI tk) T) (wRace cI cT r tr k1 k2 k3 ts ad n (nI tk) KF S U V T) (wRace cI cT r tr k1 k2 k3 ts ad n (nI tk) KF S U V (setT T (y1.toNatClampNeg + 2) (upd (upd (upd (upd (upd (T (y1.toNatClampNeg + 2)).1 4 y2) 5 y3) 6 y4) 7 y5) 12 y5, (T (y1.toNatClampNeg + 2)).2)))) ⟨hx, hb, hml, hown, hts⟩ (mX3_setCrew l D cI cT mo g0 t0 z0 MF H.size tv y1 y2 y3 y4 y5 n hR.n6 hR.m2) (cwV 5 hts gL_law_X3_setCrew rfl rfl rfl (by decide +kernel) ⟨Nat.le_of_ble_eq_true rfl, Nat.le_of_ble_eq_true rfl⟩) hK hP hD hS hA [0, 2] rfl (fun k q h => by simp at h) (sp_nsub (sp_nod2 hD) [0, 2] (by decide) rfl) rfl rfl rfl (ci := 3) rfl rfl rfl rfl hl.1 rfl (Nat.le_of_ble_eq_true rfl) dL_law_492 ⟨show 20 + 6 * k + 2 + 1 ≤ 639876 by omega, show 600 + 60 * k + 12 + 4 ≤ 7176476 by omega⟩ (fun H locs hP hD hS => ?_)
  refine sp_top ev.symm ?_
  refine lv_istore (lv' := [(6, .int v9), (5, .int z9), (4, .int (nI (6 * k))), (0, .ref b), (1, .ref r), (2, .ref mo), (3, .ref o)]) hx hb dL_law_495 hl (by decide) rfl (fun ls hl => ?_)
  refine lv_aload_n hx hb dL_law_497 rfl (lv_at hl 5 rfl) ?_
  refine sp_rV (rest := []) (As := []) ⟨hx, hb, hml, hown, hts⟩ (mX3_thrown l D cI cT mo g0 t0 z0 (mCrewC y1 y2 y3 y4 y5 MF tv).2.1) (cwV 0 hts gL_law_X3_thrown rfl rfl rfl (by decide +kernel) ⟨Nat.le_of_ble_eq_true rfl, Nat.le_of_ble_eq_true rfl⟩) hK (sp_pick hP [0] rfl) (ci := 3) rfl rfl rfl rfl hl.1 rfl (Nat.le_of_ble_eq_true rfl) dL_law_498 ⟨show 20 + 6 * k + 2 + 1 ≤ 639876 by omega, show 600 + 60 * k + 12 + 4 ≤ 7176476 by omega⟩ ?_
  refine sp_top hq.1.1 ?_
  refine sp_top hz.symm ?_
  refine lv_iload hx hb dL_law_501 (lv_at hl 1 rfl) ?_
  refine lv_icmp_eq (tgt := 508) hx hb dL_law_503 (by decide) (fun _ => ?_) (fun cq => absurd rfl cq)
  refine lv_iload hx hb dL_law_508 (lv_at hl 1 rfl) ?_
  refine lv_if_ne (tgt := 525) hx hb dL_law_510 (by decide) (fun cz => ?_) (fun cz => ?_)
  · skip
    refine lv_goto (tgt := 1196) hx hb dL_law_525 (by decide) ?_
    obtain ⟨E, hres⟩ := hcode_nz (fun h => cz (hz.trans h))
    rw [hres] at hP hD
    refine W.widen (k := 20 + 6 * (k + 1)) (n := 600 + 60 * (k + 1)) (by omega) (by omega) ?_
    exact kk f2 ad n ns tk KF S U V T (mCrewC y1 y2 y3 y4 y5 MF tv).2.1 g (mCrewC y1 y2 y3 y4 y5 MF tv).2.2 z H locs ls (hq.2.2 E hres) (by omega) hP hD hS (lv_sub hl [2, 3, 4, 5, 6] rfl)
  · skip
    obtain ⟨v, hres⟩ := hcode_z nz123 (hz.symm.trans cz)
    refine lv_aload_n hx hb dL_law_513 rfl (lv_at hl 6 rfl) ?_
    refine lv_iconst (v := 0) hx hb dL_law_514 (by decide) ?_
    refine va_lald hx hb hJ hP 4 0 rfl rfl (show vp_in 0 1 from vp_in_nI (show 0 < 1 by decide) (by decide)) dL_law_515 ?_
    refine sp_topl (show f2 (0 : Int32).toNatClampNeg = Int32.toInt64 v9 from (hf2 v hres).trans (by rw [hq.1.2 v hres, ev])) ?_
    refine lv_iload hx hb dL_law_516 (lv_at hl 0 rfl) ?_
    refine lv_i2l (v := Int32.toInt64 v9) hx hb dL_law_518 rfl ?_
    refine W.lcmp hx hb dL_law_519 ?_
    refine lv_if_eq (tgt := 525) hx hb dL_law_520 (by decide) (fun _ => ?_) (fun c3 => absurd ((lg_cmp_eq _ _).mpr rfl) c3)
    refine lv_goto (tgt := 1196) hx hb dL_law_525 (by decide) ?_
    rw [hres] at hP hD
    refine W.widen (k := 20 + 6 * (k + 1)) (n := 600 + 60 * (k + 1)) (by omega) (by omega) ?_
    exact kk f2 ad n ns tk KF S U V _ (mCrewC y1 y2 y3 y4 y5 MF tv).2.1 g (mCrewC y1 y2 y3 y4 y5 MF tv).2.2 z H locs ls (hq.2.1 v hres) (by omega) hP hD hS (lv_sub hl [2, 3, 4, 5, 6] rfl)
