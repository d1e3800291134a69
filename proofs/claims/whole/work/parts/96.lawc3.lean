/-! The law's body, case by case (order, run, count, team) -/
set_option maxHeartbeats 4000000 in
set_option maxRecDepth 100000 in
theorem lc_order {p : Program} {l : Launch} {e : Env} {s : State} {m : MethodId} {args : Array Value} {below : List Frame} {meth : Method} {c : Code} {b L : Nat} {xs : Nat → Int32} {D : va_G} {cI cT cJ : ClassId} {Q : State → Prop} {mo g0 t0 z0 o r tr k1 k2 k3 ts k : Nat} (C : LC p l s m args meth c b L xs D cI cT cJ) (hk : 6 * k + 6 ≤ L) (hL : L ≤ 3072) (kk : ∀ (f : Nat → Int64) (ad : Nat → Nat → Nat) (n ns tk : Nat) (KF S U V : Nat → Int32) (T : Nat → TV) (MF g : Nat → Int32) (tv : Nat → TV) (z : Nat → Int32) (H : Heap) (locs : List Loc) (ls : Array Slot), Rel n ns tk KF S U V T MF g tv → tk ≤ 500 * (k + 1) → va_P D vwCl (wRef cI mo g0 t0 z0 MF g tv z ++ (o, aJ cJ f) :: wRace cI cT r tr k1 k2 k3 ts ad n (nI tk) KF S U V T) H → va_D (fun q => s.heap.size ≤ q) (wRef cI mo g0 t0 z0 MF g tv z ++ (o, aJ cJ f) :: wRace cI cT r tr k1 k2 k3 ts ad n (nI tk) KF S U V T) → va_S (fun q => s.heap.size ≤ q) s.heap H locs → lv_has ls 9 [(4, .int (nI (6 * k))), (0, .ref b), (1, .ref r), (2, .ref mo), (3, .ref o)] → W p l e room_1 s m args below meth c H locs (20 + 6 * (k + 1)) (600 + 60 * (k + 1)) Q (F0 m 1196 ls []))  : ∀ (f : Nat → Int64) (ad : Nat → Nat → Nat) (n ns tk : Nat) (KF S U V : Nat → Int32) (T : Nat → TV) (MF g : Nat → Int32) (tv : Nat → TV) (z : Nat → Int32) (H : Heap) (locs : List Loc) (ls : Array Slot), Rel n ns tk KF S U V T MF g tv → tk ≤ 500 * k → va_P D vwCl (wRef cI mo g0 t0 z0 MF g tv z ++ (o, aJ cJ f) :: wRace cI cT r tr k1 k2 k3 ts ad n (nI tk) KF S U V T) H → va_D (fun q => s.heap.size ≤ q) (wRef cI mo g0 t0 z0 MF g tv z ++ (o, aJ cJ f) :: wRace cI cT r tr k1 k2 k3 ts ad n (nI tk) KF S U V T) → va_S (fun q => s.heap.size ≤ q) s.heap H locs → lv_has ls 9 [(4, .int (nI (6 * k))), (0, .ref b), (1, .ref r), (2, .ref mo), (3, .ref o)] → W p l e room_1 s m args below meth c H locs (20 + 6 * k) (600 + 60 * k) Q (F0 m 528 ls []) := by
  intro f ad n ns tk KF S U V T MF g tv z H locs ls hR htk hP hD hS hl
  obtain ⟨hx, hb, hml, hown, hts, hX, hbl, hK, hJ, hXS, hXN, hXZ, hl9⟩ := id C
  have hA : ∀ q : Nat, s.heap.size ≤ q → (fun q : Nat => s.heap.size ≤ q) q := fun _ h => h
  have hbA : ¬ (fun q : Nat => s.heap.size ≤ q) b := Nat.not_le.mpr hbl
  obtain ⟨y1, ey1⟩ : ∃ y, y = xs (nI (6 * k) + nI 1).toNatClampNeg := ⟨_, rfl⟩
  obtain ⟨y2, ey2⟩ : ∃ y, y = xs (nI (6 * k) + nI 2).toNatClampNeg := ⟨_, rfl⟩
  obtain ⟨y3, ey3⟩ : ∃ y, y = xs (nI (6 * k) + nI 3).toNatClampNeg := ⟨_, rfl⟩
  have hq := q_order hR y1 y2 y3
  obtain ⟨z9, hz⟩ : ∃ z9, z9 = hcode hcOA (rOrder y1 y2 y3 n T) := ⟨_, rfl⟩
  obtain ⟨v9, ev⟩ : ∃ v9, v9 = (mOrder y1 y2 y3 MF tv).1 := ⟨_, rfl⟩
  refine lv_aload_n hx hb dL_law_528 rfl (lv_at hl 2 rfl) ?_
  refine lv_aload_n hx hb dL_law_529 rfl (lv_at hl 1 rfl) ?_
  refine lv_iload hx hb dL_law_530 (lv_at hl 0 rfl) ?_
  refine lv_iconst (v := 1) hx hb dL_law_532 (by decide) ?_
  refine lv_iadd hx hb dL_law_533 ?_
  refine va_sld hx hb hX hbl hbA hS (ix_in (j := 1) (by omega) hL) dL_law_534 ?_
  refine sp_top ey1.symm ?_
  refine lv_aload_n hx hb dL_law_535 rfl (lv_at hl 1 rfl) ?_
  refine lv_iload hx hb dL_law_536 (lv_at hl 0 rfl) ?_
  refine lv_iconst (v := 2) hx hb dL_law_538 (by decide) ?_
  refine lv_iadd hx hb dL_law_539 ?_
  refine va_sld hx hb hX hbl hbA hS (ix_in (j := 2) (by omega) hL) dL_law_540 ?_
  refine sp_top ey2.symm ?_
  refine lv_aload_n hx hb dL_law_541 rfl (lv_at hl 1 rfl) ?_
  refine lv_iload hx hb dL_law_542 (lv_at hl 0 rfl) ?_
  refine lv_iconst (v := 3) hx hb dL_law_544 (by decide) ?_
  refine lv_iadd hx hb dL_law_545 ?_
  refine va_sld hx hb hX hbl hbA hS (ix_in (j := 3) (by omega) hL) dL_law_546 ?_
  refine sp_top ey3.symm ?_
  refine lv_aload_n hx hb dL_law_547 rfl (lv_at hl 4 rfl) ?_
  refine sp_hI (R4 := wRef cI mo g0 t0 z0 MF g tv z) (w := (wRace cI cT r tr k1 k2 k3 ts ad n (nI tk) KF S U V T)) (w' := (wRace cI cT r tr k1 k2 k3 ts ad n (nI tk) KF S U V (setT T (y1.toNatClampNeg + 2) (upd (upd (T (y1.toNatClampNeg + 2)).1 8 y2) 9 y3, (T (y1.toNatClampNeg + 2)).2)))) (rest := []) (As := [.ref r, .int y1, .int y2, .int y3, .ref o]) ⟨hx, hb, hml, hown, hts⟩ (mL_order l D cI cT cJ hl9 H.size o f r tr k1 k2 k3 ts ad n hR.n6 (nI tk) KF S U V T y1 y2 y3) (vx_cwSW 5 hts gL_law_L_order rfl rfl rfl (by decide +kernel) ⟨Nat.le_of_ble_eq_true rfl, Nat.le_of_ble_eq_true rfl⟩) hK hXZ hXS hXN hJ hP hD hS hA (xb_fst rfl cI ad _ _ (n + 2)) rfl hl.1 rfl (Nat.le_of_ble_eq_true rfl) dL_law_548 ⟨show 20 + 6 * k + 2 ≤ 639876 by omega, show 600 + 60 * k + 12 ≤ 7176476 by omega⟩ (fun f2 H locs hf2 hP hD hS => ?_)
  refine sp_top hz.symm ?_
  refine lv_istore (lv' := [(5, .int z9), (4, .int (nI (6 * k))), (0, .ref b), (1, .ref r), (2, .ref mo), (3, .ref o)]) hx hb dL_law_551 hl (by decide) rfl (fun ls hl => ?_)
  refine lv_aload_n hx hb dL_law_553 rfl (lv_at hl 4 rfl) ?_
  refine lv_aload_n hx hb dL_law_554 rfl (lv_at hl 2 rfl) ?_
  refine lv_iload hx hb dL_law_555 (lv_at hl 1 rfl) ?_
  refine lv_iconst (v := 1) hx hb dL_law_557 (by decide) ?_
  refine lv_iadd hx hb dL_law_558 ?_
  refine va_sld hx hb hX hbl hbA hS (ix_in (j := 1) (by omega) hL) dL_law_559 ?_
  refine sp_top ey1.symm ?_
  refine lv_aload_n hx hb dL_law_560 rfl (lv_at hl 2 rfl) ?_
  refine lv_iload hx hb dL_law_561 (lv_at hl 1 rfl) ?_
  refine lv_iconst (v := 2) hx hb dL_law_563 (by decide) ?_
  refine lv_iadd hx hb dL_law_564 ?_
  refine va_sld hx hb hX hbl hbA hS (ix_in (j := 2) (by omega) hL) dL_law_565 ?_
  refine sp_top ey2.symm ?_
  refine lv_aload_n hx hb dL_law_566 rfl (lv_at hl 2 rfl) ?_
  refine lv_iload hx hb dL_law_567 (lv_at hl 1 rfl) ?_
  refine lv_iconst (v := 3) hx hb dL_law_569 (by decide) ?_
  refine lv_iadd hx hb dL_law_570 ?_
  refine va_sld hx hb hX hbl hbA hS (ix_in (j := 3) (by omega) hL) dL_law_571 ?_
  refine sp_top ey3.symm ?_
  refine sp_vI (rest := []) (As := [.int y1, .int y2, .int y3]) (W1 := wRef cI mo g0 t0 z0 (mOrder y1 y2 y3 MF tv).2.1 g (mOrder y1 y2 y3 MF tv).2.2 z ++ (o, aJ cJ f2) :: hWd (rOrder y1 y2 y3 n T) (wRace cI cT r tr k1 k2 k3 ts ad n (nI tk) KF S U V T) (wRace cI cT r tr k1 k2 k3 ts ad n (nI tk) KF S U V (setT T (y1.toNatClampNeg + 2) (upd (upd (T (y1.toNatClampNeg + 2)).1 8 y2) 9 y3, (T (y1.toNatClampNeg + 2)).2)))) ⟨hx, hb, hml, hown, hts⟩ (mX3_order l D cI cT mo g0 t0 z0 MF tv y1 y2 y3 n hR.n6 hR.m2) (cwV 3 hts gL_law_X3_order rfl rfl rfl (by decide +kernel) ⟨Nat.le_of_ble_eq_true rfl, Nat.le_of_ble_eq_true rfl⟩) hK hP hD hS [0, 2] rfl (fun k q h => by simp at h) (sp_nsub (sp_nod2 hD) [0, 2] (by decide) rfl) rfl rfl rfl (ci := 3) rfl rfl rfl rfl hl.1 rfl (Nat.le_of_ble_eq_true rfl) dL_law_572 ⟨show 20 + 6 * k + 2 ≤ 639876 by omega, show 600 + 60 * k + 12 ≤ 7176476 by omega⟩ (fun H locs hP hD hS => ?_)
  refine sp_top ev.symm ?_
  refine lv_istore (lv' := [(6, .int v9), (5, .int z9), (4, .int (nI (6 * k))), (0, .ref b), (1, .ref r), (2, .ref mo), (3, .ref o)]) hx hb dL_law_575 hl (by decide) rfl (fun ls hl => ?_)
  refine lv_aload_n hx hb dL_law_577 rfl (lv_at hl 5 rfl) ?_
  refine sp_rV (rest := []) (As := []) ⟨hx, hb, hml, hown, hts⟩ (mX3_thrown l D cI cT mo g0 t0 z0 (mOrder y1 y2 y3 MF tv).2.1) (cwV 0 hts gL_law_X3_thrown rfl rfl rfl (by decide +kernel) ⟨Nat.le_of_ble_eq_true rfl, Nat.le_of_ble_eq_true rfl⟩) hK (sp_pick hP [0] rfl) (ci := 3) rfl rfl rfl rfl hl.1 rfl (Nat.le_of_ble_eq_true rfl) dL_law_578 ⟨show 20 + 6 * k + 2 ≤ 639876 by omega, show 600 + 60 * k + 12 ≤ 7176476 by omega⟩ ?_
  refine sp_top hq.1.1 ?_
  refine sp_top hz.symm ?_
  refine lv_iload hx hb dL_law_581 (lv_at hl 1 rfl) ?_
  refine lv_icmp_eq (tgt := 588) hx hb dL_law_583 (by decide) (fun _ => ?_) (fun cq => absurd rfl cq)
  refine lv_iload hx hb dL_law_588 (lv_at hl 1 rfl) ?_
  refine lv_if_ne (tgt := 605) hx hb dL_law_590 (by decide) (fun cz => ?_) (fun cz => ?_)
  · skip
    refine lv_goto (tgt := 1196) hx hb dL_law_605 (by decide) ?_
    obtain ⟨E, hres⟩ := hcode_nz (fun h => cz (hz.trans h))
    rw [hres] at hP hD
    refine W.widen (k := 20 + 6 * (k + 1)) (n := 600 + 60 * (k + 1)) (by omega) (by omega) ?_
    exact kk f2 ad n ns tk KF S U V T (mOrder y1 y2 y3 MF tv).2.1 g (mOrder y1 y2 y3 MF tv).2.2 z H locs ls (hq.2.2 E hres) (by omega) hP hD hS (lv_sub hl [2, 3, 4, 5, 6] rfl)
  · skip
    obtain ⟨v, hres⟩ := hcode_z nzOA (hz.symm.trans cz)
    refine lv_aload_n hx hb dL_law_593 rfl (lv_at hl 6 rfl) ?_
    refine lv_iconst (v := 0) hx hb dL_law_594 (by decide) ?_
    refine va_lald hx hb hJ hP 4 0 rfl rfl (show vp_in 0 1 from vp_in_nI (show 0 < 1 by decide) (by decide)) dL_law_595 ?_
    refine sp_topl (show f2 (0 : Int32).toNatClampNeg = Int32.toInt64 v9 from (hf2 v hres).trans (by rw [hq.1.2 v hres, ev])) ?_
    refine lv_iload hx hb dL_law_596 (lv_at hl 0 rfl) ?_
    refine lv_i2l (v := Int32.toInt64 v9) hx hb dL_law_598 rfl ?_
    refine W.lcmp hx hb dL_law_599 ?_
    refine lv_if_eq (tgt := 605) hx hb dL_law_600 (by decide) (fun _ => ?_) (fun c3 => absurd ((lg_cmp_eq _ _).mpr rfl) c3)
    refine lv_goto (tgt := 1196) hx hb dL_law_605 (by decide) ?_
    rw [hres] at hP hD
    refine W.widen (k := 20 + 6 * (k + 1)) (n := 600 + 60 * (k + 1)) (by omega) (by omega) ?_
    exact kk f2 ad n ns tk KF S U V _ (mOrder y1 y2 y3 MF tv).2.1 g (mOrder y1 y2 y3 MF tv).2.2 z H locs ls (hq.2.1 v hres) (by omega) hP hD hS (lv_sub hl [2, 3, 4, 5, 6] rfl)
set_option maxHeartbeats 4000000 in
set_option maxRecDepth 100000 in
theorem lc_run {p : Program} {l : Launch} {e : Env} {s : State} {m : MethodId} {args : Array Value} {below : List Frame} {meth : Method} {c : Code} {b L : Nat} {xs : Nat → Int32} {D : va_G} {cI cT cJ : ClassId} {Q : State → Prop} {mo g0 t0 z0 o r tr k1 k2 k3 ts k : Nat} (C : LC p l s m args meth c b L xs D cI cT cJ) (hk : 6 * k + 6 ≤ L) (hL : L ≤ 3072) (kk : ∀ (f : Nat → Int64) (ad : Nat → Nat → Nat) (n ns tk : Nat) (KF S U V : Nat → Int32) (T : Nat → TV) (MF g : Nat → Int32) (tv : Nat → TV) (z : Nat → Int32) (H : Heap) (locs : List Loc) (ls : Array Slot), Rel n ns tk KF S U V T MF g tv → tk ≤ 500 * (k + 1) → va_P D vwCl (wRef cI mo g0 t0 z0 MF g tv z ++ (o, aJ cJ f) :: wRace cI cT r tr k1 k2 k3 ts ad n (nI tk) KF S U V T) H → va_D (fun q => s.heap.size ≤ q) (wRef cI mo g0 t0 z0 MF g tv z ++ (o, aJ cJ f) :: wRace cI cT r tr k1 k2 k3 ts ad n (nI tk) KF S U V T) → va_S (fun q => s.heap.size ≤ q) s.heap H locs → lv_has ls 9 [(4, .int (nI (6 * k))), (0, .ref b), (1, .ref r), (2, .ref mo), (3, .ref o)] → W p l e room_1 s m args below meth c H locs (20 + 6 * (k + 1)) (600 + 60 * (k + 1)) Q (F0 m 1196 ls []))  : ∀ (f : Nat → Int64) (ad : Nat → Nat → Nat) (n ns tk : Nat) (KF S U V : Nat → Int32) (T : Nat → TV) (MF g : Nat → Int32) (tv : Nat → TV) (z : Nat → Int32) (H : Heap) (locs : List Loc) (ls : Array Slot), Rel n ns tk KF S U V T MF g tv → tk ≤ 500 * k → va_P D vwCl (wRef cI mo g0 t0 z0 MF g tv z ++ (o, aJ cJ f) :: wRace cI cT r tr k1 k2 k3 ts ad n (nI tk) KF S U V T) H → va_D (fun q => s.heap.size ≤ q) (wRef cI mo g0 t0 z0 MF g tv z ++ (o, aJ cJ f) :: wRace cI cT r tr k1 k2 k3 ts ad n (nI tk) KF S U V T) → va_S (fun q => s.heap.size ≤ q) s.heap H locs → lv_has ls 9 [(4, .int (nI (6 * k))), (0, .ref b), (1, .ref r), (2, .ref mo), (3, .ref o)] → W p l e room_1 s m args below meth c H locs (20 + 6 * k) (600 + 60 * k) Q (F0 m 608 ls []) := by
  intro f ad n ns tk KF S U V T MF g tv z H locs ls hR htk hP hD hS hl
  obtain ⟨hx, hb, hml, hown, hts, hX, hbl, hK, hJ, hXS, hXN, hXZ, hl9⟩ := id C
  have hA : ∀ q : Nat, s.heap.size ≤ q → (fun q : Nat => s.heap.size ≤ q) q := fun _ h => h
  have hbA : ¬ (fun q : Nat => s.heap.size ≤ q) b := Nat.not_le.mpr hbl
  obtain ⟨y1, ey1⟩ : ∃ y, y = xs (nI (6 * k) + nI 1).toNatClampNeg := ⟨_, rfl⟩
  have hq := q_run hR (by omega) y1
  obtain ⟨z9, hz⟩ : ∃ z9, z9 = hcode hc12 (rRun y1 S U V ns (KF 4) (nI tk) T n) := ⟨_, rfl⟩
  obtain ⟨v9, ev⟩ : ∃ v9, v9 = (mRunC y1 MF g ns n tv).1 := ⟨_, rfl⟩
  refine lv_aload_n hx hb dL_law_608 rfl (lv_at hl 2 rfl) ?_
  refine lv_aload_n hx hb dL_law_609 rfl (lv_at hl 1 rfl) ?_
  refine lv_iload hx hb dL_law_610 (lv_at hl 0 rfl) ?_
  refine lv_iconst (v := 1) hx hb dL_law_612 (by decide) ?_
  refine lv_iadd hx hb dL_law_613 ?_
  refine va_sld hx hb hX hbl hbA hS (ix_in (j := 1) (by omega) hL) dL_law_614 ?_
  refine sp_top ey1.symm ?_
  refine lv_aload_n hx hb dL_law_615 rfl (lv_at hl 4 rfl) ?_
  refine sp_hI (R4 := wRef cI mo g0 t0 z0 MF g tv z) (w := (wRace cI cT r tr k1 k2 k3 ts ad n (nI tk) KF S U V T)) (w' := (wRace cI cT r tr k1 k2 k3 ts ad n (nI tk + y1) KF S U V (cRunT S U V ns (KF 4) (nI tk) T n y1.toNatClampNeg))) (rest := []) (As := [.ref r, .int y1, .ref o]) ⟨hx, hb, hml, hown, hts⟩ (mL_run l D cI cT cJ hl9 H.size o f r tr k1 k2 k3 ts ad n hR.n6 (nI tk) KF S U V T hR.wd.teams ns hR.ns12 hR.k3 y1) (vx_cwSW 3 hts gL_law_L_run rfl rfl rfl (by decide +kernel) ⟨Nat.le_of_ble_eq_true rfl, Nat.le_of_ble_eq_true rfl⟩) hK hXZ hXS hXN hJ hP hD hS hA (xb_fst rfl cI ad _ _ (n + 2)) rfl hl.1 rfl (Nat.le_of_ble_eq_true rfl) dL_law_616 ⟨show 20 + 6 * k + 1 ≤ 639876 by omega, show 600 + 60 * k + 6 ≤ 7176476 by omega⟩ (fun f2 H locs hf2 hP hD hS => ?_)
  refine sp_top hz.symm ?_
  refine lv_istore (lv' := [(5, .int z9), (4, .int (nI (6 * k))), (0, .ref b), (1, .ref r), (2, .ref mo), (3, .ref o)]) hx hb dL_law_619 hl (by decide) rfl (fun ls hl => ?_)
  refine lv_aload_n hx hb dL_law_621 rfl (lv_at hl 4 rfl) ?_
  refine lv_aload_n hx hb dL_law_622 rfl (lv_at hl 2 rfl) ?_
  refine lv_iload hx hb dL_law_623 (lv_at hl 1 rfl) ?_
  refine lv_iconst (v := 1) hx hb dL_law_625 (by decide) ?_
  refine lv_iadd hx hb dL_law_626 ?_
  refine va_sld hx hb hX hbl hbA hS (ix_in (j := 1) (by omega) hL) dL_law_627 ?_
  refine sp_top ey1.symm ?_
  refine sp_vI (rest := []) (As := [.int y1]) (W1 := wRef cI mo g0 t0 z0 (mRunC y1 MF g ns n tv).2.1 g (mRunC y1 MF g ns n tv).2.2 z ++ (o, aJ cJ f2) :: hWd (rRun y1 S U V ns (KF 4) (nI tk) T n) (wRace cI cT r tr k1 k2 k3 ts ad n (nI tk) KF S U V T) (wRace cI cT r tr k1 k2 k3 ts ad n (nI tk + y1) KF S U V (cRunT S U V ns (KF 4) (nI tk) T n y1.toNatClampNeg))) ⟨hx, hb, hml, hown, hts⟩ (mX3_run l D cI cT mo g0 t0 z0 MF g tv y1 ns hR.ns0 hR.ns12 hR.m5 n hR.n6 hR.m2 hR.wd.mok) (cwV 1 hts gL_law_X3_run rfl rfl rfl (by decide +kernel) ⟨Nat.le_of_ble_eq_true rfl, Nat.le_of_ble_eq_true rfl⟩) hK hP hD hS [0, 1, 2] rfl (fun k q h => by simp at h) (sp_nsub (sp_nod2 hD) [0, 1, 2] (by decide) rfl) rfl rfl rfl (ci := 3) rfl rfl rfl rfl hl.1 rfl (Nat.le_of_ble_eq_true rfl) dL_law_628 ⟨show 20 + 6 * k + 1 ≤ 639876 by omega, show 600 + 60 * k + 6 ≤ 7176476 by omega⟩ (fun H locs hP hD hS => ?_)
  refine sp_top ev.symm ?_
  refine lv_istore (lv' := [(6, .int v9), (5, .int z9), (4, .int (nI (6 * k))), (0, .ref b), (1, .ref r), (2, .ref mo), (3, .ref o)]) hx hb dL_law_631 hl (by decide) rfl (fun ls hl => ?_)
  refine lv_aload_n hx hb dL_law_633 rfl (lv_at hl 5 rfl) ?_
  refine sp_rV (rest := []) (As := []) ⟨hx, hb, hml, hown, hts⟩ (mX3_thrown l D cI cT mo g0 t0 z0 (mRunC y1 MF g ns n tv).2.1) (cwV 0 hts gL_law_X3_thrown rfl rfl rfl (by decide +kernel) ⟨Nat.le_of_ble_eq_true rfl, Nat.le_of_ble_eq_true rfl⟩) hK (sp_pick hP [0] rfl) (ci := 3) rfl rfl rfl rfl hl.1 rfl (Nat.le_of_ble_eq_true rfl) dL_law_634 ⟨show 20 + 6 * k + 1 ≤ 639876 by omega, show 600 + 60 * k + 6 ≤ 7176476 by omega⟩ ?_
  refine sp_top hq.1.1 ?_
  refine sp_top hz.symm ?_
  refine lv_iload hx hb dL_law_637 (lv_at hl 1 rfl) ?_
  refine lv_icmp_eq (tgt := 644) hx hb dL_law_639 (by decide) (fun _ => ?_) (fun cq => absurd rfl cq)
  refine lv_iload hx hb dL_law_644 (lv_at hl 1 rfl) ?_
  refine lv_if_ne (tgt := 661) hx hb dL_law_646 (by decide) (fun cz => ?_) (fun cz => ?_)
  · skip
    refine lv_goto (tgt := 1196) hx hb dL_law_661 (by decide) ?_
    obtain ⟨E, hres⟩ := hcode_nz (fun h => cz (hz.trans h))
    rw [hres] at hP hD
    refine W.widen (k := 20 + 6 * (k + 1)) (n := 600 + 60 * (k + 1)) (by omega) (by omega) ?_
    exact kk f2 ad n ns tk KF S U V T (mRunC y1 MF g ns n tv).2.1 g (mRunC y1 MF g ns n tv).2.2 z H locs ls (hq.2.2 E hres) (by omega) hP hD hS (lv_sub hl [2, 3, 4, 5, 6] rfl)
  · skip
    obtain ⟨v, hres⟩ := hcode_z nz12 (hz.symm.trans cz)
    refine lv_aload_n hx hb dL_law_649 rfl (lv_at hl 6 rfl) ?_
    refine lv_iconst (v := 0) hx hb dL_law_650 (by decide) ?_
    refine va_lald hx hb hJ hP 4 0 rfl rfl (show vp_in 0 1 from vp_in_nI (show 0 < 1 by decide) (by decide)) dL_law_651 ?_
    refine sp_topl (show f2 (0 : Int32).toNatClampNeg = Int32.toInt64 v9 from (hf2 v hres).trans (by rw [hq.1.2 v hres, ev])) ?_
    refine lv_iload hx hb dL_law_652 (lv_at hl 0 rfl) ?_
    refine lv_i2l (v := Int32.toInt64 v9) hx hb dL_law_654 rfl ?_
    refine W.lcmp hx hb dL_law_655 ?_
    refine lv_if_eq (tgt := 661) hx hb dL_law_656 (by decide) (fun _ => ?_) (fun c3 => absurd ((lg_cmp_eq _ _).mpr rfl) c3)
    refine lv_goto (tgt := 1196) hx hb dL_law_661 (by decide) ?_
    rw [hres] at hP hD
    obtain ⟨tk2, ht1, ht2, hR2⟩ := hq.2.1 v hres
    refine W.widen (k := 20 + 6 * (k + 1)) (n := 600 + 60 * (k + 1)) (by omega) (by omega) ?_
    have hP : va_P D vwCl (wRef cI mo g0 t0 z0 (mRunC y1 MF g ns n tv).2.1 g (mRunC y1 MF g ns n tv).2.2 z ++ (o, aJ cJ f2) :: wRace cI cT r tr k1 k2 k3 ts ad n (nI tk2) KF S U V (cRunT S U V ns (KF 4) (nI tk) T n y1.toNatClampNeg)) H := by rw [← ht2]; exact hP
    have hD : va_D (fun q => s.heap.size ≤ q) (wRef cI mo g0 t0 z0 (mRunC y1 MF g ns n tv).2.1 g (mRunC y1 MF g ns n tv).2.2 z ++ (o, aJ cJ f2) :: wRace cI cT r tr k1 k2 k3 ts ad n (nI tk2) KF S U V (cRunT S U V ns (KF 4) (nI tk) T n y1.toNatClampNeg)) := by rw [← ht2]; exact hD
    exact kk f2 ad n ns tk2 KF S U V _ (mRunC y1 MF g ns n tv).2.1 g (mRunC y1 MF g ns n tv).2.2 z H locs ls hR2 (by omega) hP hD hS (lv_sub hl [2, 3, 4, 5, 6] rfl)
set_option maxHeartbeats 4000000 in
set_option maxRecDepth 100000 in
theorem lc_count {p : Program} {l : Launch} {e : Env} {s : State} {m : MethodId} {args : Array Value} {below : List Frame} {meth : Method} {c : Code} {b L : Nat} {xs : Nat → Int32} {D : va_G} {cI cT cJ : ClassId} {Q : State → Prop} {mo g0 t0 z0 o r tr k1 k2 k3 ts k : Nat} (C : LC p l s m args meth c b L xs D cI cT cJ) (hk : 6 * k + 6 ≤ L) (hL : L ≤ 3072) (kk : ∀ (f : Nat → Int64) (ad : Nat → Nat → Nat) (n ns tk : Nat) (KF S U V : Nat → Int32) (T : Nat → TV) (MF g : Nat → Int32) (tv : Nat → TV) (z : Nat → Int32) (H : Heap) (locs : List Loc) (ls : Array Slot), Rel n ns tk KF S U V T MF g tv → tk ≤ 500 * (k + 1) → va_P D vwCl (wRef cI mo g0 t0 z0 MF g tv z ++ (o, aJ cJ f) :: wRace cI cT r tr k1 k2 k3 ts ad n (nI tk) KF S U V T) H → va_D (fun q => s.heap.size ≤ q) (wRef cI mo g0 t0 z0 MF g tv z ++ (o, aJ cJ f) :: wRace cI cT r tr k1 k2 k3 ts ad n (nI tk) KF S U V T) → va_S (fun q => s.heap.size ≤ q) s.heap H locs → lv_has ls 9 [(4, .int (nI (6 * k))), (0, .ref b), (1, .ref r), (2, .ref mo), (3, .ref o)] → W p l e room_1 s m args below meth c H locs (20 + 6 * (k + 1)) (600 + 60 * (k + 1)) Q (F0 m 1196 ls []))  : ∀ (f : Nat → Int64) (ad : Nat → Nat → Nat) (n ns tk : Nat) (KF S U V : Nat → Int32) (T : Nat → TV) (MF g : Nat → Int32) (tv : Nat → TV) (z : Nat → Int32) (H : Heap) (locs : List Loc) (ls : Array Slot), Rel n ns tk KF S U V T MF g tv → tk ≤ 500 * k → va_P D vwCl (wRef cI mo g0 t0 z0 MF g tv z ++ (o, aJ cJ f) :: wRace cI cT r tr k1 k2 k3 ts ad n (nI tk) KF S U V T) H → va_D (fun q => s.heap.size ≤ q) (wRef cI mo g0 t0 z0 MF g tv z ++ (o, aJ cJ f) :: wRace cI cT r tr k1 k2 k3 ts ad n (nI tk) KF S U V T) → va_S (fun q => s.heap.size ≤ q) s.heap H locs → lv_has ls 9 [(4, .int (nI (6 * k))), (0, .ref b), (1, .ref r), (2, .ref mo), (3, .ref o)] → W p l e room_1 s m args below meth c H locs (20 + 6 * k) (600 + 60 * k) Q (F0 m 677 ls []) := by
  intro f ad n ns tk KF S U V T MF g tv z H locs ls hR htk hP hD hS hl
  obtain ⟨hx, hb, hml, hown, hts, hX, hbl, hK, hJ, hXS, hXN, hXZ, hl9⟩ := id C
  have hA : ∀ q : Nat, s.heap.size ≤ q → (fun q : Nat => s.heap.size ≤ q) q := fun _ h => h
  have hbA : ¬ (fun q : Nat => s.heap.size ≤ q) b := Nat.not_le.mpr hbl
  obtain ⟨y1, ey1⟩ : ∃ y, y = xs (nI (6 * k) + nI 1).toNatClampNeg := ⟨_, rfl⟩
  have hq := q_count hR y1
  obtain ⟨z9, hz⟩ : ∃ z9, z9 = hcode hc1 (rCount y1 KF T n (nI tk)) := ⟨_, rfl⟩
  obtain ⟨v9, ev⟩ : ∃ v9, v9 = (mCountC y1 MF tv n).1 := ⟨_, rfl⟩
  refine lv_aload_n hx hb dL_law_677 rfl (lv_at hl 2 rfl) ?_
  refine lv_aload_n hx hb dL_law_678 rfl (lv_at hl 1 rfl) ?_
  refine lv_iload hx hb dL_law_679 (lv_at hl 0 rfl) ?_
  refine lv_iconst (v := 1) hx hb dL_law_681 (by decide) ?_
  refine lv_iadd hx hb dL_law_682 ?_
  refine va_sld hx hb hX hbl hbA hS (ix_in (j := 1) (by omega) hL) dL_law_683 ?_
  refine sp_top ey1.symm ?_
  refine lv_aload_n hx hb dL_law_684 rfl (lv_at hl 4 rfl) ?_
  refine sp_hI (R4 := wRef cI mo g0 t0 z0 MF g tv z) (w := (wRace cI cT r tr k1 k2 k3 ts ad n (nI tk) KF S U V T)) (w' := (wRace cI cT r tr k1 k2 k3 ts ad n (nI tk) KF S U V T)) (rest := []) (As := [.ref r, .int y1, .ref o]) ⟨hx, hb, hml, hown, hts⟩ (mL_count l D cI cT cJ hl9 H.size o f r tr k1 k2 k3 ts ad n hR.n6 (nI tk) KF S U V T y1) (vx_cwSW 3 hts gL_law_L_count rfl rfl rfl (by decide +kernel) ⟨Nat.le_of_ble_eq_true rfl, Nat.le_of_ble_eq_true rfl⟩) hK hXZ hXS hXN hJ hP hD hS hA (xb_fst rfl cI ad _ _ (n + 2)) rfl hl.1 rfl (Nat.le_of_ble_eq_true rfl) dL_law_685 ⟨show 20 + 6 * k + 1 ≤ 639876 by omega, show 600 + 60 * k + 6 ≤ 7176476 by omega⟩ (fun f2 H locs hf2 hP hD hS => ?_)
  refine sp_top hz.symm ?_
  refine lv_istore (lv' := [(5, .int z9), (4, .int (nI (6 * k))), (0, .ref b), (1, .ref r), (2, .ref mo), (3, .ref o)]) hx hb dL_law_688 hl (by decide) rfl (fun ls hl => ?_)
  refine lv_aload_n hx hb dL_law_690 rfl (lv_at hl 4 rfl) ?_
  refine lv_aload_n hx hb dL_law_691 rfl (lv_at hl 2 rfl) ?_
  refine lv_iload hx hb dL_law_692 (lv_at hl 1 rfl) ?_
  refine lv_iconst (v := 1) hx hb dL_law_694 (by decide) ?_
  refine lv_iadd hx hb dL_law_695 ?_
  refine va_sld hx hb hX hbl hbA hS (ix_in (j := 1) (by omega) hL) dL_law_696 ?_
  refine sp_top ey1.symm ?_
  refine sp_vI (rest := []) (As := [.int y1]) (W1 := wRef cI mo g0 t0 z0 (mCountC y1 MF tv n).2 g tv z ++ (o, aJ cJ f2) :: hWd (rCount y1 KF T n (nI tk)) (wRace cI cT r tr k1 k2 k3 ts ad n (nI tk) KF S U V T) (wRace cI cT r tr k1 k2 k3 ts ad n (nI tk) KF S U V T)) ⟨hx, hb, hml, hown, hts⟩ (mX3_count l D cI cT mo g0 t0 z0 MF tv y1 n hR.n6 hR.m2) (cwV 1 hts gL_law_X3_count rfl rfl rfl (by decide +kernel) ⟨Nat.le_of_ble_eq_true rfl, Nat.le_of_ble_eq_true rfl⟩) hK hP hD hS [0, 2] rfl (fun k q h => by simp at h) (sp_nsub (sp_nod2 hD) [0, 2] (by decide) rfl) rfl rfl rfl (ci := 3) rfl rfl rfl rfl hl.1 rfl (Nat.le_of_ble_eq_true rfl) dL_law_697 ⟨show 20 + 6 * k + 1 ≤ 639876 by omega, show 600 + 60 * k + 6 ≤ 7176476 by omega⟩ (fun H locs hP hD hS => ?_)
  refine sp_top ev.symm ?_
  refine lv_istore (lv' := [(6, .int v9), (5, .int z9), (4, .int (nI (6 * k))), (0, .ref b), (1, .ref r), (2, .ref mo), (3, .ref o)]) hx hb dL_law_700 hl (by decide) rfl (fun ls hl => ?_)
  refine lv_aload_n hx hb dL_law_702 rfl (lv_at hl 5 rfl) ?_
  refine sp_rV (rest := []) (As := []) ⟨hx, hb, hml, hown, hts⟩ (mX3_thrown l D cI cT mo g0 t0 z0 (mCountC y1 MF tv n).2) (cwV 0 hts gL_law_X3_thrown rfl rfl rfl (by decide +kernel) ⟨Nat.le_of_ble_eq_true rfl, Nat.le_of_ble_eq_true rfl⟩) hK (sp_pick hP [0] rfl) (ci := 3) rfl rfl rfl rfl hl.1 rfl (Nat.le_of_ble_eq_true rfl) dL_law_703 ⟨show 20 + 6 * k + 1 ≤ 639876 by omega, show 600 + 60 * k + 6 ≤ 7176476 by omega⟩ ?_
  refine sp_top hq.1.1 ?_
  refine sp_top hz.symm ?_
  refine lv_iload hx hb dL_law_706 (lv_at hl 1 rfl) ?_
  refine lv_icmp_eq (tgt := 713) hx hb dL_law_708 (by decide) (fun _ => ?_) (fun cq => absurd rfl cq)
  refine lv_iload hx hb dL_law_713 (lv_at hl 1 rfl) ?_
  refine lv_if_ne (tgt := 730) hx hb dL_law_715 (by decide) (fun cz => ?_) (fun cz => ?_)
  · skip
    refine lv_goto (tgt := 1196) hx hb dL_law_730 (by decide) ?_
    obtain ⟨E, hres⟩ := hcode_nz (fun h => cz (hz.trans h))
    rw [hres] at hP hD
    refine W.widen (k := 20 + 6 * (k + 1)) (n := 600 + 60 * (k + 1)) (by omega) (by omega) ?_
    exact kk f2 ad n ns tk KF S U V T (mCountC y1 MF tv n).2 g tv z H locs ls (hq.2.2 E hres) (by omega) hP hD hS (lv_sub hl [2, 3, 4, 5, 6] rfl)
  · skip
    obtain ⟨v, hres⟩ := hcode_z nz1 (hz.symm.trans cz)
    refine lv_aload_n hx hb dL_law_718 rfl (lv_at hl 6 rfl) ?_
    refine lv_iconst (v := 0) hx hb dL_law_719 (by decide) ?_
    refine va_lald hx hb hJ hP 4 0 rfl rfl (show vp_in 0 1 from vp_in_nI (show 0 < 1 by decide) (by decide)) dL_law_720 ?_
    refine sp_topl (show f2 (0 : Int32).toNatClampNeg = Int32.toInt64 v9 from (hf2 v hres).trans (by rw [hq.1.2 v hres, ev])) ?_
    refine lv_iload hx hb dL_law_721 (lv_at hl 0 rfl) ?_
    refine lv_i2l (v := Int32.toInt64 v9) hx hb dL_law_723 rfl ?_
    refine W.lcmp hx hb dL_law_724 ?_
    refine lv_if_eq (tgt := 730) hx hb dL_law_725 (by decide) (fun _ => ?_) (fun c3 => absurd ((lg_cmp_eq _ _).mpr rfl) c3)
    refine lv_goto (tgt := 1196) hx hb dL_law_730 (by decide) ?_
    rw [hres] at hP hD
    refine W.widen (k := 20 + 6 * (k + 1)) (n := 600 + 60 * (k + 1)) (by omega) (by omega) ?_
    exact kk f2 ad n ns tk KF S U V T (mCountC y1 MF tv n).2 g tv z H locs ls (hq.2.1 v hres) (by omega) hP hD hS (lv_sub hl [2, 3, 4, 5, 6] rfl)
set_option maxHeartbeats 4000000 in
set_option maxRecDepth 100000 in
theorem lc_team {p : Program} {l : Launch} {e : Env} {s : State} {m : MethodId} {args : Array Value} {below : List Frame} {meth : Method} {c : Code} {b L : Nat} {xs : Nat → Int32} {D : va_G} {cI cT cJ : ClassId} {Q : State → Prop} {mo g0 t0 z0 o r tr k1 k2 k3 ts k : Nat} (C : LC p l s m args meth c b L xs D cI cT cJ) (hk : 6 * k + 6 ≤ L) (hL : L ≤ 3072) (kk : ∀ (f : Nat → Int64) (ad : Nat → Nat → Nat) (n ns tk : Nat) (KF S U V : Nat → Int32) (T : Nat → TV) (MF g : Nat → Int32) (tv : Nat → TV) (z : Nat → Int32) (H : Heap) (locs : List Loc) (ls : Array Slot), Rel n ns tk KF S U V T MF g tv → tk ≤ 500 * (k + 1) → va_P D vwCl (wRef cI mo g0 t0 z0 MF g tv z ++ (o, aJ cJ f) :: wRace cI cT r tr k1 k2 k3 ts ad n (nI tk) KF S U V T) H → va_D (fun q => s.heap.size ≤ q) (wRef cI mo g0 t0 z0 MF g tv z ++ (o, aJ cJ f) :: wRace cI cT r tr k1 k2 k3 ts ad n (nI tk) KF S U V T) → va_S (fun q => s.heap.size ≤ q) s.heap H locs → lv_has ls 9 [(4, .int (nI (6 * k))), (0, .ref b), (1, .ref r), (2, .ref mo), (3, .ref o)] → W p l e room_1 s m args below meth c H locs (20 + 6 * (k + 1)) (600 + 60 * (k + 1)) Q (F0 m 1196 ls []))  : ∀ (f : Nat → Int64) (ad : Nat → Nat → Nat) (n ns tk : Nat) (KF S U V : Nat → Int32) (T : Nat → TV) (MF g : Nat → Int32) (tv : Nat → TV) (z : Nat → Int32) (H : Heap) (locs : List Loc) (ls : Array Slot), Rel n ns tk KF S U V T MF g tv → tk ≤ 500 * k → va_P D vwCl (wRef cI mo g0 t0 z0 MF g tv z ++ (o, aJ cJ f) :: wRace cI cT r tr k1 k2 k3 ts ad n (nI tk) KF S U V T) H → va_D (fun q => s.heap.size ≤ q) (wRef cI mo g0 t0 z0 MF g tv z ++ (o, aJ cJ f) :: wRace cI cT r tr k1 k2 k3 ts ad n (nI tk) KF S U V T) → va_S (fun q => s.heap.size ≤ q) s.heap H locs → lv_has ls 9 [(4, .int (nI (6 * k))), (0, .ref b), (1, .ref r), (2, .ref mo), (3, .ref o)] → W p l e room_1 s m args below meth c H locs (20 + 6 * k) (600 + 60 * k) Q (F0 m 733 ls []) := by
  intro f ad n ns tk KF S U V T MF g tv z H locs ls hR htk hP hD hS hl
  obtain ⟨hx, hb, hml, hown, hts, hX, hbl, hK, hJ, hXS, hXN, hXZ, hl9⟩ := id C
  have hA : ∀ q : Nat, s.heap.size ≤ q → (fun q : Nat => s.heap.size ≤ q) q := fun _ h => h
  have hbA : ¬ (fun q : Nat => s.heap.size ≤ q) b := Nat.not_le.mpr hbl
  obtain ⟨y1, ey1⟩ : ∃ y, y = xs (nI (6 * k) + nI 1).toNatClampNeg := ⟨_, rfl⟩
  obtain ⟨y2, ey2⟩ : ∃ y, y = xs (nI (6 * k) + nI 2).toNatClampNeg := ⟨_, rfl⟩
  have hq := q_team hR y1 y2
  obtain ⟨z9, hz⟩ : ∃ z9, z9 = hcode hc1 (rTeam y1 y2 n T) := ⟨_, rfl⟩
  obtain ⟨v9, ev⟩ : ∃ v9, v9 = (mTeamC y1 y2 MF tv).1 := ⟨_, rfl⟩
  refine lv_aload_n hx hb dL_law_733 rfl (lv_at hl 2 rfl) ?_
  refine lv_aload_n hx hb dL_law_734 rfl (lv_at hl 1 rfl) ?_
  refine lv_iload hx hb dL_law_735 (lv_at hl 0 rfl) ?_
  refine lv_iconst (v := 1) hx hb dL_law_737 (by decide) ?_
  refine lv_iadd hx hb dL_law_738 ?_
  refine va_sld hx hb hX hbl hbA hS (ix_in (j := 1) (by omega) hL) dL_law_739 ?_
  refine sp_top ey1.symm ?_
  refine lv_aload_n hx hb dL_law_740 rfl (lv_at hl 1 rfl) ?_
  refine lv_iload hx hb dL_law_741 (lv_at hl 0 rfl) ?_
  refine lv_iconst (v := 2) hx hb dL_law_743 (by decide) ?_
  refine lv_iadd hx hb dL_law_744 ?_
  refine va_sld hx hb hX hbl hbA hS (ix_in (j := 2) (by omega) hL) dL_law_745 ?_
  refine sp_top ey2.symm ?_
  refine lv_aload_n hx hb dL_law_746 rfl (lv_at hl 4 rfl) ?_
  refine sp_hI (R4 := wRef cI mo g0 t0 z0 MF g tv z) (w := (wRace cI cT r tr k1 k2 k3 ts ad n (nI tk) KF S U V T)) (w' := (wRace cI cT r tr k1 k2 k3 ts ad n (nI tk) KF S U V T)) (rest := []) (As := [.ref r, .int y1, .int y2, .ref o]) ⟨hx, hb, hml, hown, hts⟩ (mL_team l D cI cT cJ hl9 H.size o f r tr k1 k2 k3 ts ad n hR.n6 (nI tk) KF S U V T hR.wd.teams y1 y2) (vx_cwSW 4 hts gL_law_L_team rfl rfl rfl (by decide +kernel) ⟨Nat.le_of_ble_eq_true rfl, Nat.le_of_ble_eq_true rfl⟩) hK hXZ hXS hXN hJ hP hD hS hA (xb_fst rfl cI ad _ _ (n + 2)) rfl hl.1 rfl (Nat.le_of_ble_eq_true rfl) dL_law_747 ⟨show 20 + 6 * k + 2 ≤ 639876 by omega, show 600 + 60 * k + 12 ≤ 7176476 by omega⟩ (fun f2 H locs hf2 hP hD hS => ?_)
  refine sp_top hz.symm ?_
  refine lv_istore (lv' := [(5, .int z9), (4, .int (nI (6 * k))), (0, .ref b), (1, .ref r), (2, .ref mo), (3, .ref o)]) hx hb dL_law_750 hl (by decide) rfl (fun ls hl => ?_)
  refine lv_aload_n hx hb dL_law_752 rfl (lv_at hl 4 rfl) ?_
  refine lv_aload_n hx hb dL_law_753 rfl (lv_at hl 2 rfl) ?_
  refine lv_iload hx hb dL_law_754 (lv_at hl 1 rfl) ?_
  refine lv_iconst (v := 1) hx hb dL_law_756 (by decide) ?_
  refine lv_iadd hx hb dL_law_757 ?_
  refine va_sld hx hb hX hbl hbA hS (ix_in (j := 1) (by omega) hL) dL_law_758 ?_
  refine sp_top ey1.symm ?_
  refine lv_aload_n hx hb dL_law_759 rfl (lv_at hl 2 rfl) ?_
  refine lv_iload hx hb dL_law_760 (lv_at hl 1 rfl) ?_
  refine lv_iconst (v := 2) hx hb dL_law_762 (by decide) ?_
  refine lv_iadd hx hb dL_law_763 ?_
  refine va_sld hx hb hX hbl hbA hS (ix_in (j := 2) (by omega) hL) dL_law_764 ?_
  refine sp_top ey2.symm ?_
  refine sp_vI (rest := []) (As := [.int y1, .int y2]) (W1 := wRef cI mo g0 t0 z0 (mTeamC y1 y2 MF tv).2 g tv z ++ (o, aJ cJ f2) :: hWd (rTeam y1 y2 n T) (wRace cI cT r tr k1 k2 k3 ts ad n (nI tk) KF S U V T) (wRace cI cT r tr k1 k2 k3 ts ad n (nI tk) KF S U V T)) ⟨hx, hb, hml, hown, hts⟩ (mX3_team l D cI cT mo g0 t0 z0 MF tv y1 y2 n hR.n6 hR.m2 hR.wd.mok) (cwV 2 hts gL_law_X3_team rfl rfl rfl (by decide +kernel) ⟨Nat.le_of_ble_eq_true rfl, Nat.le_of_ble_eq_true rfl⟩) hK hP hD hS [0, 2] rfl (fun k q h => by simp at h) (sp_nsub (sp_nod2 hD) [0, 2] (by decide) rfl) rfl rfl rfl (ci := 3) rfl rfl rfl rfl hl.1 rfl (Nat.le_of_ble_eq_true rfl) dL_law_765 ⟨show 20 + 6 * k + 2 ≤ 639876 by omega, show 600 + 60 * k + 12 ≤ 7176476 by omega⟩ (fun H locs hP hD hS => ?_)
  refine sp_top ev.symm ?_
  refine lv_istore (lv' := [(6, .int v9), (5, .int z9), (4, .int (nI (6 * k))), (0, .ref b), (1, .ref r), (2, .ref mo), (3, .ref o)]) hx hb dL_law_768 hl (by decide) rfl (fun ls hl => ?_)
  refine lv_aload_n hx hb dL_law_770 rfl (lv_at hl 5 rfl) ?_
  refine sp_rV (rest := []) (As := []) ⟨hx, hb, hml, hown, hts⟩ (mX3_thrown l D cI cT mo g0 t0 z0 (mTeamC y1 y2 MF tv).2) (cwV 0 hts gL_law_X3_thrown rfl rfl rfl (by decide +kernel) ⟨Nat.le_of_ble_eq_true rfl, Nat.le_of_ble_eq_true rfl⟩) hK (sp_pick hP [0] rfl) (ci := 3) rfl rfl rfl rfl hl.1 rfl (Nat.le_of_ble_eq_true rfl) dL_law_771 ⟨show 20 + 6 * k + 2 ≤ 639876 by omega, show 600 + 60 * k + 12 ≤ 7176476 by omega⟩ ?_
  refine sp_top hq.1.1 ?_
  refine sp_top hz.symm ?_
  refine lv_iload hx hb dL_law_774 (lv_at hl 1 rfl) ?_
  refine lv_icmp_eq (tgt := 781) hx hb dL_law_776 (by decide) (fun _ => ?_) (fun cq => absurd rfl cq)
  refine lv_iload hx hb dL_law_781 (lv_at hl 1 rfl) ?_
  refine lv_if_ne (tgt := 798) hx hb dL_law_783 (by decide) (fun cz => ?_) (fun cz => ?_)
  · skip
    refine lv_goto (tgt := 1196) hx hb dL_law_798 (by decide) ?_
    obtain ⟨E, hres⟩ := hcode_nz (fun h => cz (hz.trans h))
    rw [hres] at hP hD
    refine W.widen (k := 20 + 6 * (k + 1)) (n := 600 + 60 * (k + 1)) (by omega) (by omega) ?_
    exact kk f2 ad n ns tk KF S U V T (mTeamC y1 y2 MF tv).2 g tv z H locs ls (hq.2.2 E hres) (by omega) hP hD hS (lv_sub hl [2, 3, 4, 5, 6] rfl)
  · skip
    obtain ⟨v, hres⟩ := hcode_z nz1 (hz.symm.trans cz)
    refine lv_aload_n hx hb dL_law_786 rfl (lv_at hl 6 rfl) ?_
    refine lv_iconst (v := 0) hx hb dL_law_787 (by decide) ?_
    refine va_lald hx hb hJ hP 4 0 rfl rfl (show vp_in 0 1 from vp_in_nI (show 0 < 1 by decide) (by decide)) dL_law_788 ?_
    refine sp_topl (show f2 (0 : Int32).toNatClampNeg = Int32.toInt64 v9 from (hf2 v hres).trans (by rw [hq.1.2 v hres, ev])) ?_
    refine lv_iload hx hb dL_law_789 (lv_at hl 0 rfl) ?_
    refine lv_i2l (v := Int32.toInt64 v9) hx hb dL_law_791 rfl ?_
    refine W.lcmp hx hb dL_law_792 ?_
    refine lv_if_eq (tgt := 798) hx hb dL_law_793 (by decide) (fun _ => ?_) (fun c3 => absurd ((lg_cmp_eq _ _).mpr rfl) c3)
    refine lv_goto (tgt := 1196) hx hb dL_law_798 (by decide) ?_
    rw [hres] at hP hD
    refine W.widen (k := 20 + 6 * (k + 1)) (n := 600 + 60 * (k + 1)) (by omega) (by omega) ?_
    exact kk f2 ad n ns tk KF S U V T (mTeamC y1 y2 MF tv).2 g tv z H locs ls (hq.2.1 v hres) (by omega) hP hD hS (lv_sub hl [2, 3, 4, 5, 6] rfl)
