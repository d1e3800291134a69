/-! The law's body, case by case (roller, next, ranked, foresee, advise) -/
set_option maxHeartbeats 4000000 in
set_option maxRecDepth 100000 in
theorem lc_roller {p : Program} {l : Launch} {e : Env} {s : State} {m : MethodId} {args : Array Value} {below : List Frame} {meth : Method} {c : Code} {b L : Nat} {xs : Nat → Int32} {D : va_G} {cI cT cJ : ClassId} {Q : State → Prop} {mo g0 t0 z0 o r tr k1 k2 k3 ts k : Nat} (C : LC p l s m args meth c b L xs D cI cT cJ) (hk : 6 * k + 6 ≤ L) (hL : L ≤ 3072) (kk : ∀ (f : Nat → Int64) (ad : Nat → Nat → Nat) (n ns tk : Nat) (KF S U V : Nat → Int32) (T : Nat → TV) (MF g : Nat → Int32) (tv : Nat → TV) (z : Nat → Int32) (H : Heap) (locs : List Loc) (ls : Array Slot), Rel n ns tk KF S U V T MF g tv → tk ≤ 500 * (k + 1) → va_P D vwCl (wRef cI mo g0 t0 z0 MF g tv z ++ (o, aJ cJ f) :: wRace cI cT r tr k1 k2 k3 ts ad n (nI tk) KF S U V T) H → va_D (fun q => s.heap.size ≤ q) (wRef cI mo g0 t0 z0 MF g tv z ++ (o, aJ cJ f) :: wRace cI cT r tr k1 k2 k3 ts ad n (nI tk) KF S U V T) → va_S (fun q => s.heap.size ≤ q) s.heap H locs → lv_has ls 9 [(4, .int (nI (6 * k))), (0, .ref b), (1, .ref r), (2, .ref mo), (3, .ref o)] → W p l e room_1 s m args below meth c H locs (20 + 6 * (k + 1)) (600 + 60 * (k + 1)) Q (F0 m 1196 ls []))  : ∀ (f : Nat → Int64) (ad : Nat → Nat → Nat) (n ns tk : Nat) (KF S U V : Nat → Int32) (T : Nat → TV) (MF g : Nat → Int32) (tv : Nat → TV) (z : Nat → Int32) (H : Heap) (locs : List Loc) (ls : Array Slot), Rel n ns tk KF S U V T MF g tv → tk ≤ 500 * k → va_P D vwCl (wRef cI mo g0 t0 z0 MF g tv z ++ (o, aJ cJ f) :: wRace cI cT r tr k1 k2 k3 ts ad n (nI tk) KF S U V T) H → va_D (fun q => s.heap.size ≤ q) (wRef cI mo g0 t0 z0 MF g tv z ++ (o, aJ cJ f) :: wRace cI cT r tr k1 k2 k3 ts ad n (nI tk) KF S U V T) → va_S (fun q => s.heap.size ≤ q) s.heap H locs → lv_has ls 9 [(4, .int (nI (6 * k))), (0, .ref b), (1, .ref r), (2, .ref mo), (3, .ref o)] → W p l e room_1 s m args below meth c H locs (20 + 6 * k) (600 + 60 * k) Q (F0 m 801 ls []) := by
  intro f ad n ns tk KF S U V T MF g tv z H locs ls hR htk hP hD hS hl
  obtain ⟨hx, hb, hml, hown, hts, hX, hbl, hK, hJ, hXS, hXN, hXZ, hl9⟩ := id C
  have hA : ∀ q : Nat, s.heap.size ≤ q → (fun q : Nat => s.heap.size ≤ q) q := fun _ h => h
  have hbA : ¬ (fun q : Nat => s.heap.size ≤ q) b := Nat.not_le.mpr hbl
  obtain ⟨y1, ey1⟩ : ∃ y, y = xs (nI (6 * k) + nI 1).toNatClampNeg := ⟨_, rfl⟩
  obtain ⟨y2, ey2⟩ : ∃ y, y = xs (nI (6 * k) + nI 2).toNatClampNeg := ⟨_, rfl⟩
  have hq := q_roller hR y1 y2
  obtain ⟨z9, hz⟩ : ∃ z9, z9 = hcode hcOA (rRoller y1 y2 n T) := ⟨_, rfl⟩
  obtain ⟨v9, ev⟩ : ∃ v9, v9 = (mRollerC y1 y2 MF tv).1 := ⟨_, rfl⟩
  refine lv_aload_n hx hb dL_law_801 rfl (lv_at hl 2 rfl) ?_
  refine lv_aload_n hx hb dL_law_802 rfl (lv_at hl 1 rfl) ?_
  refine lv_iload hx hb dL_law_803 (lv_at hl 0 rfl) ?_
  refine lv_iconst (v := 1) hx hb dL_law_805 (by decide) ?_
  refine lv_iadd hx hb dL_law_806 ?_
  refine va_sld hx hb hX hbl hbA hS (ix_in (j := 1) (by omega) hL) dL_law_807 ?_
  refine sp_top ey1.symm ?_
  refine lv_aload_n hx hb dL_law_808 rfl (lv_at hl 1 rfl) ?_
  refine lv_iload hx hb dL_law_809 (lv_at hl 0 rfl) ?_
  refine lv_iconst (v := 2) hx hb dL_law_811 (by decide) ?_
  refine lv_iadd hx hb dL_law_812 ?_
  refine va_sld hx hb hX hbl hbA hS (ix_in (j := 2) (by omega) hL) dL_law_813 ?_
  refine sp_top ey2.symm ?_
  refine lv_aload_n hx hb dL_law_814 rfl (lv_at hl 4 rfl) ?_
  refine sp_hI (R4 := wRef cI mo g0 t0 z0 MF g tv z) (w := (wRace cI cT r tr k1 k2 k3 ts ad n (nI tk) KF S U V T)) (w' := (wRace cI cT r tr k1 k2 k3 ts ad n (nI tk) KF S U V T)) (rest := []) (As := [.ref r, .int y1, .int y2, .ref o]) ⟨hx, hb, hml, hown, hts⟩ (mL_roller l D cI cT cJ hl9 H.size o f r tr k1 k2 k3 ts ad n hR.n6 (nI tk) KF S U V T y1 y2) (vx_cwSW 4 hts gL_law_L_roller rfl rfl rfl (by decide +kernel) ⟨Nat.le_of_ble_eq_true rfl, Nat.le_of_ble_eq_true rfl⟩) hK hXZ hXS hXN hJ hP hD hS hA (xb_fst rfl cI ad _ _ (n + 2)) rfl hl.1 rfl (Nat.le_of_ble_eq_true rfl) dL_law_815 ⟨show 20 + 6 * k + 2 ≤ 639876 by omega, show 600 + 60 * k + 12 ≤ 7176476 by omega⟩ (fun f2 H locs hf2 hP hD hS => ?_)
  refine sp_top hz.symm ?_
  refine lv_istore (lv' := [(5, .int z9), (4, .int (nI (6 * k))), (0, .ref b), (1, .ref r), (2, .ref mo), (3, .ref o)]) hx hb dL_law_818 hl (by decide) rfl (fun ls hl => ?_)
  refine lv_aload_n hx hb dL_law_820 rfl (lv_at hl 4 rfl) ?_
  refine lv_aload_n hx hb dL_law_821 rfl (lv_at hl 2 rfl) ?_
  refine lv_iload hx hb dL_law_822 (lv_at hl 1 rfl) ?_
  refine lv_iconst (v := 1) hx hb dL_law_824 (by decide) ?_
  refine lv_iadd hx hb dL_law_825 ?_
  refine va_sld hx hb hX hbl hbA hS (ix_in (j := 1) (by omega) hL) dL_law_826 ?_
  refine sp_top ey1.symm ?_
  refine lv_aload_n hx hb dL_law_827 rfl (lv_at hl 2 rfl) ?_
  refine lv_iload hx hb dL_law_828 (lv_at hl 1 rfl) ?_
  refine lv_iconst (v := 2) hx hb dL_law_830 (by decide) ?_
  refine lv_iadd hx hb dL_law_831 ?_
  refine va_sld hx hb hX hbl hbA hS (ix_in (j := 2) (by omega) hL) dL_law_832 ?_
  refine sp_top ey2.symm ?_
  refine sp_vI (rest := []) (As := [.int y1, .int y2]) (W1 := wRef cI mo g0 t0 z0 (mRollerC y1 y2 MF tv).2 g tv z ++ (o, aJ cJ f2) :: hWd (rRoller y1 y2 n T) (wRace cI cT r tr k1 k2 k3 ts ad n (nI tk) KF S U V T) (wRace cI cT r tr k1 k2 k3 ts ad n (nI tk) KF S U V T)) ⟨hx, hb, hml, hown, hts⟩ (mX3_roller l D cI cT mo g0 t0 z0 MF tv y1 y2 n hR.n6 hR.m2 hR.wd.mok) (cwV 2 hts gL_law_X3_roller rfl rfl rfl (by decide +kernel) ⟨Nat.le_of_ble_eq_true rfl, Nat.le_of_ble_eq_true rfl⟩) hK hP hD hS [0, 2] rfl (fun k q h => by simp at h) (sp_nsub (sp_nod2 hD) [0, 2] (by decide) rfl) rfl rfl rfl (ci := 3) rfl rfl rfl rfl hl.1 rfl (Nat.le_of_ble_eq_true rfl) dL_law_833 ⟨show 20 + 6 * k + 2 ≤ 639876 by omega, show 600 + 60 * k + 12 ≤ 7176476 by omega⟩ (fun H locs hP hD hS => ?_)
  refine sp_top ev.symm ?_
  refine lv_istore (lv' := [(6, .int v9), (5, .int z9), (4, .int (nI (6 * k))), (0, .ref b), (1, .ref r), (2, .ref mo), (3, .ref o)]) hx hb dL_law_836 hl (by decide) rfl (fun ls hl => ?_)
  refine lv_aload_n hx hb dL_law_838 rfl (lv_at hl 5 rfl) ?_
  refine sp_rV (rest := []) (As := []) ⟨hx, hb, hml, hown, hts⟩ (mX3_thrown l D cI cT mo g0 t0 z0 (mRollerC y1 y2 MF tv).2) (cwV 0 hts gL_law_X3_thrown rfl rfl rfl (by decide +kernel) ⟨Nat.le_of_ble_eq_true rfl, Nat.le_of_ble_eq_true rfl⟩) hK (sp_pick hP [0] rfl) (ci := 3) rfl rfl rfl rfl hl.1 rfl (Nat.le_of_ble_eq_true rfl) dL_law_839 ⟨show 20 + 6 * k + 2 ≤ 639876 by omega, show 600 + 60 * k + 12 ≤ 7176476 by omega⟩ ?_
  refine sp_top hq.1.1 ?_
  refine sp_top hz.symm ?_
  refine lv_iload hx hb dL_law_842 (lv_at hl 1 rfl) ?_
  refine lv_icmp_eq (tgt := 849) hx hb dL_law_844 (by decide) (fun _ => ?_) (fun cq => absurd rfl cq)
  refine lv_iload hx hb dL_law_849 (lv_at hl 1 rfl) ?_
  refine lv_if_ne (tgt := 866) hx hb dL_law_851 (by decide) (fun cz => ?_) (fun cz => ?_)
  · skip
    refine lv_goto (tgt := 1196) hx hb dL_law_866 (by decide) ?_
    obtain ⟨E, hres⟩ := hcode_nz (fun h => cz (hz.trans h))
    rw [hres] at hP hD
    refine W.widen (k := 20 + 6 * (k + 1)) (n := 600 + 60 * (k + 1)) (by omega) (by omega) ?_
    exact kk f2 ad n ns tk KF S U V T (mRollerC y1 y2 MF tv).2 g tv z H locs ls (hq.2.2 E hres) (by omega) hP hD hS (lv_sub hl [2, 3, 4, 5, 6] rfl)
  · skip
    obtain ⟨v, hres⟩ := hcode_z nzOA (hz.symm.trans cz)
    refine lv_aload_n hx hb dL_law_854 rfl (lv_at hl 6 rfl) ?_
    refine lv_iconst (v := 0) hx hb dL_law_855 (by decide) ?_
    refine va_lald hx hb hJ hP 4 0 rfl rfl (show vp_in 0 1 from vp_in_nI (show 0 < 1 by decide) (by decide)) dL_law_856 ?_
    refine sp_topl (show f2 (0 : Int32).toNatClampNeg = Int32.toInt64 v9 from (hf2 v hres).trans (by rw [hq.1.2 v hres, ev])) ?_
    refine lv_iload hx hb dL_law_857 (lv_at hl 0 rfl) ?_
    refine lv_i2l (v := Int32.toInt64 v9) hx hb dL_law_859 rfl ?_
    refine W.lcmp hx hb dL_law_860 ?_
    refine lv_if_eq (tgt := 866) hx hb dL_law_861 (by decide) (fun _ => ?_) (fun c3 => absurd ((lg_cmp_eq _ _).mpr rfl) c3)
    refine lv_goto (tgt := 1196) hx hb dL_law_866 (by decide) ?_
    rw [hres] at hP hD
    refine W.widen (k := 20 + 6 * (k + 1)) (n := 600 + 60 * (k + 1)) (by omega) (by omega) ?_
    exact kk f2 ad n ns tk KF S U V T (mRollerC y1 y2 MF tv).2 g tv z H locs ls (hq.2.1 v hres) (by omega) hP hD hS (lv_sub hl [2, 3, 4, 5, 6] rfl)
set_option maxHeartbeats 4000000 in
set_option maxRecDepth 100000 in
theorem lc_next {p : Program} {l : Launch} {e : Env} {s : State} {m : MethodId} {args : Array Value} {below : List Frame} {meth : Method} {c : Code} {b L : Nat} {xs : Nat → Int32} {D : va_G} {cI cT cJ : ClassId} {Q : State → Prop} {mo g0 t0 z0 o r tr k1 k2 k3 ts k : Nat} (C : LC p l s m args meth c b L xs D cI cT cJ) (hk : 6 * k + 6 ≤ L) (hL : L ≤ 3072) (kk : ∀ (f : Nat → Int64) (ad : Nat → Nat → Nat) (n ns tk : Nat) (KF S U V : Nat → Int32) (T : Nat → TV) (MF g : Nat → Int32) (tv : Nat → TV) (z : Nat → Int32) (H : Heap) (locs : List Loc) (ls : Array Slot), Rel n ns tk KF S U V T MF g tv → tk ≤ 500 * (k + 1) → va_P D vwCl (wRef cI mo g0 t0 z0 MF g tv z ++ (o, aJ cJ f) :: wRace cI cT r tr k1 k2 k3 ts ad n (nI tk) KF S U V T) H → va_D (fun q => s.heap.size ≤ q) (wRef cI mo g0 t0 z0 MF g tv z ++ (o, aJ cJ f) :: wRace cI cT r tr k1 k2 k3 ts ad n (nI tk) KF S U V T) → va_S (fun q => s.heap.size ≤ q) s.heap H locs → lv_has ls 9 [(4, .int (nI (6 * k))), (0, .ref b), (1, .ref r), (2, .ref mo), (3, .ref o)] → W p l e room_1 s m args below meth c H locs (20 + 6 * (k + 1)) (600 + 60 * (k + 1)) Q (F0 m 1196 ls []))  : ∀ (f : Nat → Int64) (ad : Nat → Nat → Nat) (n ns tk : Nat) (KF S U V : Nat → Int32) (T : Nat → TV) (MF g : Nat → Int32) (tv : Nat → TV) (z : Nat → Int32) (H : Heap) (locs : List Loc) (ls : Array Slot), Rel n ns tk KF S U V T MF g tv → tk ≤ 500 * k → va_P D vwCl (wRef cI mo g0 t0 z0 MF g tv z ++ (o, aJ cJ f) :: wRace cI cT r tr k1 k2 k3 ts ad n (nI tk) KF S U V T) H → va_D (fun q => s.heap.size ≤ q) (wRef cI mo g0 t0 z0 MF g tv z ++ (o, aJ cJ f) :: wRace cI cT r tr k1 k2 k3 ts ad n (nI tk) KF S U V T) → va_S (fun q => s.heap.size ≤ q) s.heap H locs → lv_has ls 9 [(4, .int (nI (6 * k))), (0, .ref b), (1, .ref r), (2, .ref mo), (3, .ref o)] → W p l e room_1 s m args below meth c H locs (20 + 6 * k) (600 + 60 * k) Q (F0 m 869 ls []) := by
  intro f ad n ns tk KF S U V T MF g tv z H locs ls hR htk hP hD hS hl
  obtain ⟨hx, hb, hml, hown, hts, hX, hbl, hK, hJ, hXS, hXN, hXZ, hl9⟩ := id C
  have hA : ∀ q : Nat, s.heap.size ≤ q → (fun q : Nat => s.heap.size ≤ q) q := fun _ h => h
  have hbA : ¬ (fun q : Nat => s.heap.size ≤ q) b := Nat.not_le.mpr hbl
  obtain ⟨y1, ey1⟩ : ∃ y, y = xs (nI (6 * k) + nI 1).toNatClampNeg := ⟨_, rfl⟩
  obtain ⟨y2, ey2⟩ : ∃ y, y = xs (nI (6 * k) + nI 2).toNatClampNeg := ⟨_, rfl⟩
  have hq := q_next hR y1 y2
  obtain ⟨z9, hz⟩ : ∃ z9, z9 = hcode hc1 (rNext y1 y2 S U V ns n T) := ⟨_, rfl⟩
  obtain ⟨v9, ev⟩ : ∃ v9, v9 = (mNextC y1 y2 MF g ns tv).1 := ⟨_, rfl⟩
  refine lv_aload_n hx hb dL_law_869 rfl (lv_at hl 2 rfl) ?_
  refine lv_aload_n hx hb dL_law_870 rfl (lv_at hl 1 rfl) ?_
  refine lv_iload hx hb dL_law_871 (lv_at hl 0 rfl) ?_
  refine lv_iconst (v := 1) hx hb dL_law_873 (by decide) ?_
  refine lv_iadd hx hb dL_law_874 ?_
  refine va_sld hx hb hX hbl hbA hS (ix_in (j := 1) (by omega) hL) dL_law_875 ?_
  refine sp_top ey1.symm ?_
  refine lv_aload_n hx hb dL_law_876 rfl (lv_at hl 1 rfl) ?_
  refine lv_iload hx hb dL_law_877 (lv_at hl 0 rfl) ?_
  refine lv_iconst (v := 2) hx hb dL_law_879 (by decide) ?_
  refine lv_iadd hx hb dL_law_880 ?_
  refine va_sld hx hb hX hbl hbA hS (ix_in (j := 2) (by omega) hL) dL_law_881 ?_
  refine sp_top ey2.symm ?_
  refine lv_aload_n hx hb dL_law_882 rfl (lv_at hl 4 rfl) ?_
  refine sp_hI (R4 := wRef cI mo g0 t0 z0 MF g tv z) (w := (wRace cI cT r tr k1 k2 k3 ts ad n (nI tk) KF S U V T)) (w' := (wRace cI cT r tr k1 k2 k3 ts ad n (nI tk) KF S U V T)) (rest := []) (As := [.ref r, .int y1, .int y2, .ref o]) ⟨hx, hb, hml, hown, hts⟩ (mL_next l D cI cT cJ hl9 H.size o f r tr k1 k2 k3 ts ad n hR.n6 (nI tk) KF S U V T hR.wd.teams ns hR.ns12 hR.k3 y1 y2) (vx_cwSW 4 hts gL_law_L_next rfl rfl rfl (by decide +kernel) ⟨Nat.le_of_ble_eq_true rfl, Nat.le_of_ble_eq_true rfl⟩) hK hXZ hXS hXN hJ hP hD hS hA (xb_fst rfl cI ad _ _ (n + 2)) rfl hl.1 rfl (Nat.le_of_ble_eq_true rfl) dL_law_883 ⟨show 20 + 6 * k + 2 ≤ 639876 by omega, show 600 + 60 * k + 12 ≤ 7176476 by omega⟩ (fun f2 H locs hf2 hP hD hS => ?_)
  refine sp_top hz.symm ?_
  refine lv_istore (lv' := [(5, .int z9), (4, .int (nI (6 * k))), (0, .ref b), (1, .ref r), (2, .ref mo), (3, .ref o)]) hx hb dL_law_886 hl (by decide) rfl (fun ls hl => ?_)
  refine lv_aload_n hx hb dL_law_888 rfl (lv_at hl 4 rfl) ?_
  refine lv_aload_n hx hb dL_law_889 rfl (lv_at hl 2 rfl) ?_
  refine lv_iload hx hb dL_law_890 (lv_at hl 1 rfl) ?_
  refine lv_iconst (v := 1) hx hb dL_law_892 (by decide) ?_
  refine lv_iadd hx hb dL_law_893 ?_
  refine va_sld hx hb hX hbl hbA hS (ix_in (j := 1) (by omega) hL) dL_law_894 ?_
  refine sp_top ey1.symm ?_
  refine lv_aload_n hx hb dL_law_895 rfl (lv_at hl 2 rfl) ?_
  refine lv_iload hx hb dL_law_896 (lv_at hl 1 rfl) ?_
  refine lv_iconst (v := 2) hx hb dL_law_898 (by decide) ?_
  refine lv_iadd hx hb dL_law_899 ?_
  refine va_sld hx hb hX hbl hbA hS (ix_in (j := 2) (by omega) hL) dL_law_900 ?_
  refine sp_top ey2.symm ?_
  refine sp_vI (rest := []) (As := [.int y1, .int y2]) (W1 := wRef cI mo g0 t0 z0 (mNextC y1 y2 MF g ns tv).2 g tv z ++ (o, aJ cJ f2) :: hWd (rNext y1 y2 S U V ns n T) (wRace cI cT r tr k1 k2 k3 ts ad n (nI tk) KF S U V T) (wRace cI cT r tr k1 k2 k3 ts ad n (nI tk) KF S U V T)) ⟨hx, hb, hml, hown, hts⟩ (mX3_next l D cI cT mo g0 t0 z0 MF g tv y1 y2 ns hR.ns0 hR.ns12 hR.m5 n hR.n6 hR.m2 hR.wd.mok) (cwV 2 hts gL_law_X3_next rfl rfl rfl (by decide +kernel) ⟨Nat.le_of_ble_eq_true rfl, Nat.le_of_ble_eq_true rfl⟩) hK hP hD hS [0, 1, 2] rfl (fun k q h => by simp at h) (sp_nsub (sp_nod2 hD) [0, 1, 2] (by decide) rfl) rfl rfl rfl (ci := 3) rfl rfl rfl rfl hl.1 rfl (Nat.le_of_ble_eq_true rfl) dL_law_901 ⟨show 20 + 6 * k + 2 ≤ 639876 by omega, show 600 + 60 * k + 12 ≤ 7176476 by omega⟩ (fun H locs hP hD hS => ?_)
  refine sp_top ev.symm ?_
  refine lv_istore (lv' := [(6, .int v9), (5, .int z9), (4, .int (nI (6 * k))), (0, .ref b), (1, .ref r), (2, .ref mo), (3, .ref o)]) hx hb dL_law_904 hl (by decide) rfl (fun ls hl => ?_)
  refine lv_aload_n hx hb dL_law_906 rfl (lv_at hl 5 rfl) ?_
  refine sp_rV (rest := []) (As := []) ⟨hx, hb, hml, hown, hts⟩ (mX3_thrown l D cI cT mo g0 t0 z0 (mNextC y1 y2 MF g ns tv).2) (cwV 0 hts gL_law_X3_thrown rfl rfl rfl (by decide +kernel) ⟨Nat.le_of_ble_eq_true rfl, Nat.le_of_ble_eq_true rfl⟩) hK (sp_pick hP [0] rfl) (ci := 3) rfl rfl rfl rfl hl.1 rfl (Nat.le_of_ble_eq_true rfl) dL_law_907 ⟨show 20 + 6 * k + 2 ≤ 639876 by omega, show 600 + 60 * k + 12 ≤ 7176476 by omega⟩ ?_
  refine sp_top hq.1.1 ?_
  refine sp_top hz.symm ?_
  refine lv_iload hx hb dL_law_910 (lv_at hl 1 rfl) ?_
  refine lv_icmp_eq (tgt := 917) hx hb dL_law_912 (by decide) (fun _ => ?_) (fun cq => absurd rfl cq)
  refine lv_iload hx hb dL_law_917 (lv_at hl 1 rfl) ?_
  refine lv_if_ne (tgt := 934) hx hb dL_law_919 (by decide) (fun cz => ?_) (fun cz => ?_)
  · skip
    refine lv_goto (tgt := 1196) hx hb dL_law_934 (by decide) ?_
    obtain ⟨E, hres⟩ := hcode_nz (fun h => cz (hz.trans h))
    rw [hres] at hP hD
    refine W.widen (k := 20 + 6 * (k + 1)) (n := 600 + 60 * (k + 1)) (by omega) (by omega) ?_
    exact kk f2 ad n ns tk KF S U V T (mNextC y1 y2 MF g ns tv).2 g tv z H locs ls (hq.2.2 E hres) (by omega) hP hD hS (lv_sub hl [2, 3, 4, 5, 6] rfl)
  · skip
    obtain ⟨v, hres⟩ := hcode_z nz1 (hz.symm.trans cz)
    refine lv_aload_n hx hb dL_law_922 rfl (lv_at hl 6 rfl) ?_
    refine lv_iconst (v := 0) hx hb dL_law_923 (by decide) ?_
    refine va_lald hx hb hJ hP 4 0 rfl rfl (show vp_in 0 1 from vp_in_nI (show 0 < 1 by decide) (by decide)) dL_law_924 ?_
    refine sp_topl (show f2 (0 : Int32).toNatClampNeg = Int32.toInt64 v9 from (hf2 v hres).trans (by rw [hq.1.2 v hres, ev])) ?_
    refine lv_iload hx hb dL_law_925 (lv_at hl 0 rfl) ?_
    refine lv_i2l (v := Int32.toInt64 v9) hx hb dL_law_927 rfl ?_
    refine W.lcmp hx hb dL_law_928 ?_
    refine lv_if_eq (tgt := 934) hx hb dL_law_929 (by decide) (fun _ => ?_) (fun c3 => absurd ((lg_cmp_eq _ _).mpr rfl) c3)
    refine lv_goto (tgt := 1196) hx hb dL_law_934 (by decide) ?_
    rw [hres] at hP hD
    refine W.widen (k := 20 + 6 * (k + 1)) (n := 600 + 60 * (k + 1)) (by omega) (by omega) ?_
    exact kk f2 ad n ns tk KF S U V T (mNextC y1 y2 MF g ns tv).2 g tv z H locs ls (hq.2.1 v hres) (by omega) hP hD hS (lv_sub hl [2, 3, 4, 5, 6] rfl)
set_option maxHeartbeats 4000000 in
set_option maxRecDepth 100000 in
theorem lc_ranked {p : Program} {l : Launch} {e : Env} {s : State} {m : MethodId} {args : Array Value} {below : List Frame} {meth : Method} {c : Code} {b L : Nat} {xs : Nat → Int32} {D : va_G} {cI cT cJ : ClassId} {Q : State → Prop} {mo g0 t0 z0 o r tr k1 k2 k3 ts k : Nat} (C : LC p l s m args meth c b L xs D cI cT cJ) (hk : 6 * k + 6 ≤ L) (hL : L ≤ 3072) (kk : ∀ (f : Nat → Int64) (ad : Nat → Nat → Nat) (n ns tk : Nat) (KF S U V : Nat → Int32) (T : Nat → TV) (MF g : Nat → Int32) (tv : Nat → TV) (z : Nat → Int32) (H : Heap) (locs : List Loc) (ls : Array Slot), Rel n ns tk KF S U V T MF g tv → tk ≤ 500 * (k + 1) → va_P D vwCl (wRef cI mo g0 t0 z0 MF g tv z ++ (o, aJ cJ f) :: wRace cI cT r tr k1 k2 k3 ts ad n (nI tk) KF S U V T) H → va_D (fun q => s.heap.size ≤ q) (wRef cI mo g0 t0 z0 MF g tv z ++ (o, aJ cJ f) :: wRace cI cT r tr k1 k2 k3 ts ad n (nI tk) KF S U V T) → va_S (fun q => s.heap.size ≤ q) s.heap H locs → lv_has ls 9 [(4, .int (nI (6 * k))), (0, .ref b), (1, .ref r), (2, .ref mo), (3, .ref o)] → W p l e room_1 s m args below meth c H locs (20 + 6 * (k + 1)) (600 + 60 * (k + 1)) Q (F0 m 1196 ls []))  : ∀ (f : Nat → Int64) (ad : Nat → Nat → Nat) (n ns tk : Nat) (KF S U V : Nat → Int32) (T : Nat → TV) (MF g : Nat → Int32) (tv : Nat → TV) (z : Nat → Int32) (H : Heap) (locs : List Loc) (ls : Array Slot), Rel n ns tk KF S U V T MF g tv → tk ≤ 500 * k → va_P D vwCl (wRef cI mo g0 t0 z0 MF g tv z ++ (o, aJ cJ f) :: wRace cI cT r tr k1 k2 k3 ts ad n (nI tk) KF S U V T) H → va_D (fun q => s.heap.size ≤ q) (wRef cI mo g0 t0 z0 MF g tv z ++ (o, aJ cJ f) :: wRace cI cT r tr k1 k2 k3 ts ad n (nI tk) KF S U V T) → va_S (fun q => s.heap.size ≤ q) s.heap H locs → lv_has ls 9 [(4, .int (nI (6 * k))), (0, .ref b), (1, .ref r), (2, .ref mo), (3, .ref o)] → W p l e room_1 s m args below meth c H locs (20 + 6 * k) (600 + 60 * k) Q (F0 m 937 ls []) := by
  intro f ad n ns tk KF S U V T MF g tv z H locs ls hR htk hP hD hS hl
  obtain ⟨hx, hb, hml, hown, hts, hX, hbl, hK, hJ, hXS, hXN, hXZ, hl9⟩ := id C
  have hA : ∀ q : Nat, s.heap.size ≤ q → (fun q : Nat => s.heap.size ≤ q) q := fun _ h => h
  have hbA : ¬ (fun q : Nat => s.heap.size ≤ q) b := Nat.not_le.mpr hbl
  obtain ⟨y1, ey1⟩ : ∃ y, y = xs (nI (6 * k) + nI 1).toNatClampNeg := ⟨_, rfl⟩
  have hq := q_ranked hR y1
  obtain ⟨z9, hz⟩ : ∃ z9, z9 = hcode hc1 (rRanked y1 T n) := ⟨_, rfl⟩
  obtain ⟨v9, ev⟩ : ∃ v9, v9 = (mRankedC y1 MF tv n).1 := ⟨_, rfl⟩
  refine lv_aload_n hx hb dL_law_937 rfl (lv_at hl 2 rfl) ?_
  refine lv_aload_n hx hb dL_law_938 rfl (lv_at hl 1 rfl) ?_
  refine lv_iload hx hb dL_law_939 (lv_at hl 0 rfl) ?_
  refine lv_iconst (v := 1) hx hb dL_law_941 (by decide) ?_
  refine lv_iadd hx hb dL_law_942 ?_
  refine va_sld hx hb hX hbl hbA hS (ix_in (j := 1) (by omega) hL) dL_law_943 ?_
  refine sp_top ey1.symm ?_
  refine lv_aload_n hx hb dL_law_944 rfl (lv_at hl 4 rfl) ?_
  refine sp_hI (R4 := wRef cI mo g0 t0 z0 MF g tv z) (w := (wRace cI cT r tr k1 k2 k3 ts ad n (nI tk) KF S U V T)) (w' := (wRace cI cT r tr k1 k2 k3 ts ad n (nI tk) KF S U V T)) (rest := []) (As := [.ref r, .int y1, .ref o]) ⟨hx, hb, hml, hown, hts⟩ (mL_ranked l D cI cT cJ hl9 H.size o f r tr k1 k2 k3 ts ad n hR.n6 (nI tk) KF S U V T y1) (vx_cwSW 3 hts gL_law_L_ranked rfl rfl rfl (by decide +kernel) ⟨Nat.le_of_ble_eq_true rfl, Nat.le_of_ble_eq_true rfl⟩) hK hXZ hXS hXN hJ hP hD hS hA (xb_fst rfl cI ad _ _ (n + 2)) rfl hl.1 rfl (Nat.le_of_ble_eq_true rfl) dL_law_945 ⟨show 20 + 6 * k + 1 ≤ 639876 by omega, show 600 + 60 * k + 6 ≤ 7176476 by omega⟩ (fun f2 H locs hf2 hP hD hS => ?_)
  refine sp_top hz.symm ?_
  refine lv_istore (lv' := [(5, .int z9), (4, .int (nI (6 * k))), (0, .ref b), (1, .ref r), (2, .ref mo), (3, .ref o)]) hx hb dL_law_948 hl (by decide) rfl (fun ls hl => ?_)
  refine lv_aload_n hx hb dL_law_950 rfl (lv_at hl 4 rfl) ?_
  refine lv_aload_n hx hb dL_law_951 rfl (lv_at hl 2 rfl) ?_
  refine lv_iload hx hb dL_law_952 (lv_at hl 1 rfl) ?_
  refine lv_iconst (v := 1) hx hb dL_law_954 (by decide) ?_
  refine lv_iadd hx hb dL_law_955 ?_
  refine va_sld hx hb hX hbl hbA hS (ix_in (j := 1) (by omega) hL) dL_law_956 ?_
  refine sp_top ey1.symm ?_
  refine sp_vI (rest := []) (As := [.int y1]) (W1 := wRef cI mo g0 t0 z0 (mRankedC y1 MF tv n).2 g tv z ++ (o, aJ cJ f2) :: hWd (rRanked y1 T n) (wRace cI cT r tr k1 k2 k3 ts ad n (nI tk) KF S U V T) (wRace cI cT r tr k1 k2 k3 ts ad n (nI tk) KF S U V T)) ⟨hx, hb, hml, hown, hts⟩ (mX3_ranked l D cI cT mo g0 t0 z0 MF tv y1 n hR.n6 hR.m2) (cwV 1 hts gL_law_X3_ranked rfl rfl rfl (by decide +kernel) ⟨Nat.le_of_ble_eq_true rfl, Nat.le_of_ble_eq_true rfl⟩) hK hP hD hS [0, 2] rfl (fun k q h => by simp at h) (sp_nsub (sp_nod2 hD) [0, 2] (by decide) rfl) rfl rfl rfl (ci := 3) rfl rfl rfl rfl hl.1 rfl (Nat.le_of_ble_eq_true rfl) dL_law_957 ⟨show 20 + 6 * k + 1 ≤ 639876 by omega, show 600 + 60 * k + 6 ≤ 7176476 by omega⟩ (fun H locs hP hD hS => ?_)
  refine sp_top ev.symm ?_
  refine lv_istore (lv' := [(6, .int v9), (5, .int z9), (4, .int (nI (6 * k))), (0, .ref b), (1, .ref r), (2, .ref mo), (3, .ref o)]) hx hb dL_law_960 hl (by decide) rfl (fun ls hl => ?_)
  refine lv_aload_n hx hb dL_law_962 rfl (lv_at hl 5 rfl) ?_
  refine sp_rV (rest := []) (As := []) ⟨hx, hb, hml, hown, hts⟩ (mX3_thrown l D cI cT mo g0 t0 z0 (mRankedC y1 MF tv n).2) (cwV 0 hts gL_law_X3_thrown rfl rfl rfl (by decide +kernel) ⟨Nat.le_of_ble_eq_true rfl, Nat.le_of_ble_eq_true rfl⟩) hK (sp_pick hP [0] rfl) (ci := 3) rfl rfl rfl rfl hl.1 rfl (Nat.le_of_ble_eq_true rfl) dL_law_963 ⟨show 20 + 6 * k + 1 ≤ 639876 by omega, show 600 + 60 * k + 6 ≤ 7176476 by omega⟩ ?_
  refine sp_top hq.1.1 ?_
  refine sp_top hz.symm ?_
  refine lv_iload hx hb dL_law_966 (lv_at hl 1 rfl) ?_
  refine lv_icmp_eq (tgt := 973) hx hb dL_law_968 (by decide) (fun _ => ?_) (fun cq => absurd rfl cq)
  refine lv_iload hx hb dL_law_973 (lv_at hl 1 rfl) ?_
  refine lv_if_ne (tgt := 990) hx hb dL_law_975 (by decide) (fun cz => ?_) (fun cz => ?_)
  · skip
    refine lv_goto (tgt := 1196) hx hb dL_law_990 (by decide) ?_
    obtain ⟨E, hres⟩ := hcode_nz (fun h => cz (hz.trans h))
    rw [hres] at hP hD
    refine W.widen (k := 20 + 6 * (k + 1)) (n := 600 + 60 * (k + 1)) (by omega) (by omega) ?_
    exact kk f2 ad n ns tk KF S U V T (mRankedC y1 MF tv n).2 g tv z H locs ls (hq.2.2 E hres) (by omega) hP hD hS (lv_sub hl [2, 3, 4, 5, 6] rfl)
  · skip
    obtain ⟨v, hres⟩ := hcode_z nz1 (hz.symm.trans cz)
    refine lv_aload_n hx hb dL_law_978 rfl (lv_at hl 6 rfl) ?_
    refine lv_iconst (v := 0) hx hb dL_law_979 (by decide) ?_
    refine va_lald hx hb hJ hP 4 0 rfl rfl (show vp_in 0 1 from vp_in_nI (show 0 < 1 by decide) (by decide)) dL_law_980 ?_
    refine sp_topl (show f2 (0 : Int32).toNatClampNeg = Int32.toInt64 v9 from (hf2 v hres).trans (by rw [hq.1.2 v hres, ev])) ?_
    refine lv_iload hx hb dL_law_981 (lv_at hl 0 rfl) ?_
    refine lv_i2l (v := Int32.toInt64 v9) hx hb dL_law_983 rfl ?_
    refine W.lcmp hx hb dL_law_984 ?_
    refine lv_if_eq (tgt := 990) hx hb dL_law_985 (by decide) (fun _ => ?_) (fun c3 => absurd ((lg_cmp_eq _ _).mpr rfl) c3)
    refine lv_goto (tgt := 1196) hx hb dL_law_990 (by decide) ?_
    rw [hres] at hP hD
    refine W.widen (k := 20 + 6 * (k + 1)) (n := 600 + 60 * (k + 1)) (by omega) (by omega) ?_
    exact kk f2 ad n ns tk KF S U V T (mRankedC y1 MF tv n).2 g tv z H locs ls (hq.2.1 v hres) (by omega) hP hD hS (lv_sub hl [2, 3, 4, 5, 6] rfl)
set_option maxHeartbeats 4000000 in
set_option maxRecDepth 100000 in
theorem lc_foresee {p : Program} {l : Launch} {e : Env} {s : State} {m : MethodId} {args : Array Value} {below : List Frame} {meth : Method} {c : Code} {b L : Nat} {xs : Nat → Int32} {D : va_G} {cI cT cJ : ClassId} {Q : State → Prop} {mo g0 t0 z0 o r tr k1 k2 k3 ts k : Nat} (C : LC p l s m args meth c b L xs D cI cT cJ) (hk : 6 * k + 6 ≤ L) (hL : L ≤ 3072) (kk : ∀ (f : Nat → Int64) (ad : Nat → Nat → Nat) (n ns tk : Nat) (KF S U V : Nat → Int32) (T : Nat → TV) (MF g : Nat → Int32) (tv : Nat → TV) (z : Nat → Int32) (H : Heap) (locs : List Loc) (ls : Array Slot), Rel n ns tk KF S U V T MF g tv → tk ≤ 500 * (k + 1) → va_P D vwCl (wRef cI mo g0 t0 z0 MF g tv z ++ (o, aJ cJ f) :: wRace cI cT r tr k1 k2 k3 ts ad n (nI tk) KF S U V T) H → va_D (fun q => s.heap.size ≤ q) (wRef cI mo g0 t0 z0 MF g tv z ++ (o, aJ cJ f) :: wRace cI cT r tr k1 k2 k3 ts ad n (nI tk) KF S U V T) → va_S (fun q => s.heap.size ≤ q) s.heap H locs → lv_has ls 9 [(4, .int (nI (6 * k))), (0, .ref b), (1, .ref r), (2, .ref mo), (3, .ref o)] → W p l e room_1 s m args below meth c H locs (20 + 6 * (k + 1)) (600 + 60 * (k + 1)) Q (F0 m 1196 ls []))  : ∀ (f : Nat → Int64) (ad : Nat → Nat → Nat) (n ns tk : Nat) (KF S U V : Nat → Int32) (T : Nat → TV) (MF g : Nat → Int32) (tv : Nat → TV) (z : Nat → Int32) (H : Heap) (locs : List Loc) (ls : Array Slot), Rel n ns tk KF S U V T MF g tv → tk ≤ 500 * k → va_P D vwCl (wRef cI mo g0 t0 z0 MF g tv z ++ (o, aJ cJ f) :: wRace cI cT r tr k1 k2 k3 ts ad n (nI tk) KF S U V T) H → va_D (fun q => s.heap.size ≤ q) (wRef cI mo g0 t0 z0 MF g tv z ++ (o, aJ cJ f) :: wRace cI cT r tr k1 k2 k3 ts ad n (nI tk) KF S U V T) → va_S (fun q => s.heap.size ≤ q) s.heap H locs → lv_has ls 9 [(4, .int (nI (6 * k))), (0, .ref b), (1, .ref r), (2, .ref mo), (3, .ref o)] → W p l e room_1 s m args below meth c H locs (20 + 6 * k) (600 + 60 * k) Q (F0 m 993 ls []) := by
  intro f ad n ns tk KF S U V T MF g tv z H locs ls hR htk hP hD hS hl
  obtain ⟨hx, hb, hml, hown, hts, hX, hbl, hK, hJ, hXS, hXN, hXZ, hl9⟩ := id C
  have hA : ∀ q : Nat, s.heap.size ≤ q → (fun q : Nat => s.heap.size ≤ q) q := fun _ h => h
  have hbA : ¬ (fun q : Nat => s.heap.size ≤ q) b := Nat.not_le.mpr hbl
  obtain ⟨y1, ey1⟩ : ∃ y, y = xs (nI (6 * k) + nI 1).toNatClampNeg := ⟨_, rfl⟩
  obtain ⟨y2, ey2⟩ : ∃ y, y = xs (nI (6 * k) + nI 2).toNatClampNeg := ⟨_, rfl⟩
  obtain ⟨y3, ey3⟩ : ∃ y, y = xs (nI (6 * k) + nI 3).toNatClampNeg := ⟨_, rfl⟩
  have hq := q_see hR (by omega) y1 y2 y3
  obtain ⟨z9, hz⟩ : ∃ z9, z9 = hcode hcOA (rSee y1 y2 y3 S U V ns (KF 4) (nI tk) T n) := ⟨_, rfl⟩
  obtain ⟨v9, ev⟩ : ∃ v9, v9 = (mSeeC y1 y2 y3 MF g ns n tv).1 := ⟨_, rfl⟩
  refine lv_aload_n hx hb dL_law_993 rfl (lv_at hl 2 rfl) ?_
  refine lv_aload_n hx hb dL_law_994 rfl (lv_at hl 1 rfl) ?_
  refine lv_iload hx hb dL_law_995 (lv_at hl 0 rfl) ?_
  refine lv_iconst (v := 1) hx hb dL_law_997 (by decide) ?_
  refine lv_iadd hx hb dL_law_998 ?_
  refine va_sld hx hb hX hbl hbA hS (ix_in (j := 1) (by omega) hL) dL_law_999 ?_
  refine sp_top ey1.symm ?_
  refine lv_aload_n hx hb dL_law_1000 rfl (lv_at hl 1 rfl) ?_
  refine lv_iload hx hb dL_law_1001 (lv_at hl 0 rfl) ?_
  refine lv_iconst (v := 2) hx hb dL_law_1003 (by decide) ?_
  refine lv_iadd hx hb dL_law_1004 ?_
  refine va_sld hx hb hX hbl hbA hS (ix_in (j := 2) (by omega) hL) dL_law_1005 ?_
  refine sp_top ey2.symm ?_
  refine lv_aload_n hx hb dL_law_1006 rfl (lv_at hl 1 rfl) ?_
  refine lv_iload hx hb dL_law_1007 (lv_at hl 0 rfl) ?_
  refine lv_iconst (v := 3) hx hb dL_law_1009 (by decide) ?_
  refine lv_iadd hx hb dL_law_1010 ?_
  refine va_sld hx hb hX hbl hbA hS (ix_in (j := 3) (by omega) hL) dL_law_1011 ?_
  refine sp_top ey3.symm ?_
  refine lv_aload_n hx hb dL_law_1012 rfl (lv_at hl 4 rfl) ?_
  refine sp_hI (R4 := wRef cI mo g0 t0 z0 MF g tv z) (w := (wRace cI cT r tr k1 k2 k3 ts ad n (nI tk) KF S U V T)) (w' := (wRace cI cT r tr k1 k2 k3 ts ad n (nI tk) KF S U V (cSee y1 y2 y3 S U V ns (KF 4) (nI tk) T n))) (rest := []) (As := [.ref r, .int y1, .int y2, .int y3, .ref o]) ⟨hx, hb, hml, hown, hts⟩ (mL_foresee l D cI cT cJ hl9 H.size o f r tr k1 k2 k3 ts ad n hR.n6 (nI tk) KF S U V T hR.wd.teams ns hR.ns12 hR.k3 y1 y2 y3) (vx_cwSW 5 hts gL_law_L_foresee rfl rfl rfl (by decide +kernel) ⟨Nat.le_of_ble_eq_true rfl, Nat.le_of_ble_eq_true rfl⟩) hK hXZ hXS hXN hJ hP hD hS hA (xb_fst rfl cI ad _ _ (n + 2)) rfl hl.1 rfl (Nat.le_of_ble_eq_true rfl) dL_law_1013 ⟨show 20 + 6 * k + 2 ≤ 639876 by omega, show 600 + 60 * k + 12 ≤ 7176476 by omega⟩ (fun f2 H locs hf2 hP hD hS => ?_)
  refine sp_top hz.symm ?_
  refine lv_istore (lv' := [(5, .int z9), (4, .int (nI (6 * k))), (0, .ref b), (1, .ref r), (2, .ref mo), (3, .ref o)]) hx hb dL_law_1016 hl (by decide) rfl (fun ls hl => ?_)
  refine lv_aload_n hx hb dL_law_1018 rfl (lv_at hl 4 rfl) ?_
  refine lv_aload_n hx hb dL_law_1019 rfl (lv_at hl 2 rfl) ?_
  refine lv_iload hx hb dL_law_1020 (lv_at hl 1 rfl) ?_
  refine lv_iconst (v := 1) hx hb dL_law_1022 (by decide) ?_
  refine lv_iadd hx hb dL_law_1023 ?_
  refine va_sld hx hb hX hbl hbA hS (ix_in (j := 1) (by omega) hL) dL_law_1024 ?_
  refine sp_top ey1.symm ?_
  refine lv_aload_n hx hb dL_law_1025 rfl (lv_at hl 2 rfl) ?_
  refine lv_iload hx hb dL_law_1026 (lv_at hl 1 rfl) ?_
  refine lv_iconst (v := 2) hx hb dL_law_1028 (by decide) ?_
  refine lv_iadd hx hb dL_law_1029 ?_
  refine va_sld hx hb hX hbl hbA hS (ix_in (j := 2) (by omega) hL) dL_law_1030 ?_
  refine sp_top ey2.symm ?_
  refine lv_aload_n hx hb dL_law_1031 rfl (lv_at hl 2 rfl) ?_
  refine lv_iload hx hb dL_law_1032 (lv_at hl 1 rfl) ?_
  refine lv_iconst (v := 3) hx hb dL_law_1034 (by decide) ?_
  refine lv_iadd hx hb dL_law_1035 ?_
  refine va_sld hx hb hX hbl hbA hS (ix_in (j := 3) (by omega) hL) dL_law_1036 ?_
  refine sp_top ey3.symm ?_
  refine sp_vI (rest := []) (As := [.int y1, .int y2, .int y3]) (W1 := wRef cI mo g0 t0 z0 (mSeeC y1 y2 y3 MF g ns n tv).2 g tv (mSeeZ y1 y2 y3 MF tv z) ++ (o, aJ cJ f2) :: hWd (rSee y1 y2 y3 S U V ns (KF 4) (nI tk) T n) (wRace cI cT r tr k1 k2 k3 ts ad n (nI tk) KF S U V T) (wRace cI cT r tr k1 k2 k3 ts ad n (nI tk) KF S U V (cSee y1 y2 y3 S U V ns (KF 4) (nI tk) T n))) ⟨hx, hb, hml, hown, hts⟩ (mX3_foresee l D cI cT mo g0 t0 z0 MF g tv z y1 y2 y3 ns hR.ns0 hR.ns12 hR.m5 n hR.n6 hR.m2 hR.wd.mok) (cwV 3 hts gL_law_X3_foresee rfl rfl rfl (by decide +kernel) ⟨Nat.le_of_ble_eq_true rfl, Nat.le_of_ble_eq_true rfl⟩) hK hP hD hS [0, 1, 2, 3] rfl (fun k q h => by simp at h) (sp_nsub (sp_nod2 hD) [0, 1, 2, 3] (by decide) rfl) rfl rfl rfl (ci := 3) rfl rfl rfl rfl hl.1 rfl (Nat.le_of_ble_eq_true rfl) dL_law_1037 ⟨show 20 + 6 * k + 2 ≤ 639876 by omega, show 600 + 60 * k + 12 ≤ 7176476 by omega⟩ (fun H locs hP hD hS => ?_)
  refine sp_top ev.symm ?_
  refine lv_istore (lv' := [(6, .int v9), (5, .int z9), (4, .int (nI (6 * k))), (0, .ref b), (1, .ref r), (2, .ref mo), (3, .ref o)]) hx hb dL_law_1040 hl (by decide) rfl (fun ls hl => ?_)
  refine lv_aload_n hx hb dL_law_1042 rfl (lv_at hl 5 rfl) ?_
  refine sp_rV (rest := []) (As := []) ⟨hx, hb, hml, hown, hts⟩ (mX3_thrown l D cI cT mo g0 t0 z0 (mSeeC y1 y2 y3 MF g ns n tv).2) (cwV 0 hts gL_law_X3_thrown rfl rfl rfl (by decide +kernel) ⟨Nat.le_of_ble_eq_true rfl, Nat.le_of_ble_eq_true rfl⟩) hK (sp_pick hP [0] rfl) (ci := 3) rfl rfl rfl rfl hl.1 rfl (Nat.le_of_ble_eq_true rfl) dL_law_1043 ⟨show 20 + 6 * k + 2 ≤ 639876 by omega, show 600 + 60 * k + 12 ≤ 7176476 by omega⟩ ?_
  refine sp_top hq.1.1 ?_
  refine sp_top hz.symm ?_
  refine lv_iload hx hb dL_law_1046 (lv_at hl 1 rfl) ?_
  refine lv_icmp_eq (tgt := 1053) hx hb dL_law_1048 (by decide) (fun _ => ?_) (fun cq => absurd rfl cq)
  refine lv_iload hx hb dL_law_1053 (lv_at hl 1 rfl) ?_
  refine lv_if_ne (tgt := 1070) hx hb dL_law_1055 (by decide) (fun cz => ?_) (fun cz => ?_)
  · skip
    refine lv_goto (tgt := 1196) hx hb dL_law_1070 (by decide) ?_
    obtain ⟨E, hres⟩ := hcode_nz (fun h => cz (hz.trans h))
    rw [hres] at hP hD
    refine W.widen (k := 20 + 6 * (k + 1)) (n := 600 + 60 * (k + 1)) (by omega) (by omega) ?_
    exact kk f2 ad n ns tk KF S U V T (mSeeC y1 y2 y3 MF g ns n tv).2 g tv (mSeeZ y1 y2 y3 MF tv z) H locs ls (hq.2.2 E hres) (by omega) hP hD hS (lv_sub hl [2, 3, 4, 5, 6] rfl)
  · skip
    obtain ⟨v, hres⟩ := hcode_z nzOA (hz.symm.trans cz)
    refine lv_aload_n hx hb dL_law_1058 rfl (lv_at hl 6 rfl) ?_
    refine lv_iconst (v := 0) hx hb dL_law_1059 (by decide) ?_
    refine va_lald hx hb hJ hP 4 0 rfl rfl (show vp_in 0 1 from vp_in_nI (show 0 < 1 by decide) (by decide)) dL_law_1060 ?_
    refine sp_topl (show f2 (0 : Int32).toNatClampNeg = Int32.toInt64 v9 from (hf2 v hres).trans (by rw [hq.1.2 v hres, ev])) ?_
    refine lv_iload hx hb dL_law_1061 (lv_at hl 0 rfl) ?_
    refine lv_i2l (v := Int32.toInt64 v9) hx hb dL_law_1063 rfl ?_
    refine W.lcmp hx hb dL_law_1064 ?_
    refine lv_if_eq (tgt := 1070) hx hb dL_law_1065 (by decide) (fun _ => ?_) (fun c3 => absurd ((lg_cmp_eq _ _).mpr rfl) c3)
    refine lv_goto (tgt := 1196) hx hb dL_law_1070 (by decide) ?_
    rw [hres] at hP hD
    refine W.widen (k := 20 + 6 * (k + 1)) (n := 600 + 60 * (k + 1)) (by omega) (by omega) ?_
    exact kk f2 ad n ns tk KF S U V _ (mSeeC y1 y2 y3 MF g ns n tv).2 g tv (mSeeZ y1 y2 y3 MF tv z) H locs ls (hq.2.1 v hres) (by omega) hP hD hS (lv_sub hl [2, 3, 4, 5, 6] rfl)
set_option maxHeartbeats 4000000 in
set_option maxRecDepth 100000 in
theorem lc_advise {p : Program} {l : Launch} {e : Env} {s : State} {m : MethodId} {args : Array Value} {below : List Frame} {meth : Method} {c : Code} {b L : Nat} {xs : Nat → Int32} {D : va_G} {cI cT cJ : ClassId} {Q : State → Prop} {mo g0 t0 z0 o r tr k1 k2 k3 ts k : Nat} (C : LC p l s m args meth c b L xs D cI cT cJ) (hk : 6 * k + 6 ≤ L) (hL : L ≤ 3072) (kk : ∀ (f : Nat → Int64) (ad : Nat → Nat → Nat) (n ns tk : Nat) (KF S U V : Nat → Int32) (T : Nat → TV) (MF g : Nat → Int32) (tv : Nat → TV) (z : Nat → Int32) (H : Heap) (locs : List Loc) (ls : Array Slot), Rel n ns tk KF S U V T MF g tv → tk ≤ 500 * (k + 1) → va_P D vwCl (wRef cI mo g0 t0 z0 MF g tv z ++ (o, aJ cJ f) :: wRace cI cT r tr k1 k2 k3 ts ad n (nI tk) KF S U V T) H → va_D (fun q => s.heap.size ≤ q) (wRef cI mo g0 t0 z0 MF g tv z ++ (o, aJ cJ f) :: wRace cI cT r tr k1 k2 k3 ts ad n (nI tk) KF S U V T) → va_S (fun q => s.heap.size ≤ q) s.heap H locs → lv_has ls 9 [(4, .int (nI (6 * k))), (0, .ref b), (1, .ref r), (2, .ref mo), (3, .ref o)] → W p l e room_1 s m args below meth c H locs (20 + 6 * (k + 1)) (600 + 60 * (k + 1)) Q (F0 m 1196 ls []))  : ∀ (f : Nat → Int64) (ad : Nat → Nat → Nat) (n ns tk : Nat) (KF S U V : Nat → Int32) (T : Nat → TV) (MF g : Nat → Int32) (tv : Nat → TV) (z : Nat → Int32) (H : Heap) (locs : List Loc) (ls : Array Slot), Rel n ns tk KF S U V T MF g tv → tk ≤ 500 * k → va_P D vwCl (wRef cI mo g0 t0 z0 MF g tv z ++ (o, aJ cJ f) :: wRace cI cT r tr k1 k2 k3 ts ad n (nI tk) KF S U V T) H → va_D (fun q => s.heap.size ≤ q) (wRef cI mo g0 t0 z0 MF g tv z ++ (o, aJ cJ f) :: wRace cI cT r tr k1 k2 k3 ts ad n (nI tk) KF S U V T) → va_S (fun q => s.heap.size ≤ q) s.heap H locs → lv_has ls 9 [(4, .int (nI (6 * k))), (0, .ref b), (1, .ref r), (2, .ref mo), (3, .ref o)] → W p l e room_1 s m args below meth c H locs (20 + 6 * k) (600 + 60 * k) Q (F0 m 1073 ls []) := by
  intro f ad n ns tk KF S U V T MF g tv z H locs ls hR htk hP hD hS hl
  obtain ⟨hx, hb, hml, hown, hts, hX, hbl, hK, hJ, hXS, hXN, hXZ, hl9⟩ := id C
  have hA : ∀ q : Nat, s.heap.size ≤ q → (fun q : Nat => s.heap.size ≤ q) q := fun _ h => h
  have hbA : ¬ (fun q : Nat => s.heap.size ≤ q) b := Nat.not_le.mpr hbl
  obtain ⟨y1, ey1⟩ : ∃ y, y = xs (nI (6 * k) + nI 1).toNatClampNeg := ⟨_, rfl⟩
  obtain ⟨y2, ey2⟩ : ∃ y, y = xs (nI (6 * k) + nI 2).toNatClampNeg := ⟨_, rfl⟩
  have hq := q_adv hR (by omega) y1 y2
  obtain ⟨z9, hz⟩ : ∃ z9, z9 = hcode hcOA (rAdv y1 y2 S U V ns (KF 4) (nI tk) T n) := ⟨_, rfl⟩
  obtain ⟨v9, ev⟩ : ∃ v9, v9 = (mAdviseC y1 y2 MF g ns n tv).1 := ⟨_, rfl⟩
  refine lv_aload_n hx hb dL_law_1073 rfl (lv_at hl 2 rfl) ?_
  refine lv_aload_n hx hb dL_law_1074 rfl (lv_at hl 1 rfl) ?_
  refine lv_iload hx hb dL_law_1075 (lv_at hl 0 rfl) ?_
  refine lv_iconst (v := 1) hx hb dL_law_1077 (by decide) ?_
  refine lv_iadd hx hb dL_law_1078 ?_
  refine va_sld hx hb hX hbl hbA hS (ix_in (j := 1) (by omega) hL) dL_law_1079 ?_
  refine sp_top ey1.symm ?_
  refine lv_aload_n hx hb dL_law_1080 rfl (lv_at hl 1 rfl) ?_
  refine lv_iload hx hb dL_law_1081 (lv_at hl 0 rfl) ?_
  refine lv_iconst (v := 2) hx hb dL_law_1083 (by decide) ?_
  refine lv_iadd hx hb dL_law_1084 ?_
  refine va_sld hx hb hX hbl hbA hS (ix_in (j := 2) (by omega) hL) dL_law_1085 ?_
  refine sp_top ey2.symm ?_
  refine lv_aload_n hx hb dL_law_1086 rfl (lv_at hl 4 rfl) ?_
  refine sp_hI (R4 := wRef cI mo g0 t0 z0 MF g tv z) (w := (wRace cI cT r tr k1 k2 k3 ts ad n (nI tk) KF S U V T)) (w' := (wRace cI cT r tr k1 k2 k3 ts ad n (nI tk) KF S U V (setT T 0 (cAdvT S U V ns (KF 4) (nI tk) T (y1.toNatClampNeg + 2) y2.toNatClampNeg 11)))) (rest := []) (As := [.ref r, .int y1, .int y2, .ref o]) ⟨hx, hb, hml, hown, hts⟩ (mL_advise l D cI cT cJ hl9 H.size o f r tr k1 k2 k3 ts ad n hR.n6 (nI tk) KF S U V T hR.wd.teams ns hR.ns12 hR.k3 y1 y2) (vx_cwSW 4 hts gL_law_L_advise rfl rfl rfl (by decide +kernel) ⟨Nat.le_of_ble_eq_true rfl, Nat.le_of_ble_eq_true rfl⟩) hK hXZ hXS hXN hJ hP hD hS hA (xb_fst rfl cI ad _ _ (n + 2)) rfl hl.1 rfl (Nat.le_of_ble_eq_true rfl) dL_law_1087 ⟨show 20 + 6 * k + 2 ≤ 639876 by omega, show 600 + 60 * k + 12 ≤ 7176476 by omega⟩ (fun f2 H locs hf2 hP hD hS => ?_)
  refine sp_top hz.symm ?_
  refine lv_istore (lv' := [(5, .int z9), (4, .int (nI (6 * k))), (0, .ref b), (1, .ref r), (2, .ref mo), (3, .ref o)]) hx hb dL_law_1090 hl (by decide) rfl (fun ls hl => ?_)
  refine lv_aload_n hx hb dL_law_1092 rfl (lv_at hl 4 rfl) ?_
  refine lv_aload_n hx hb dL_law_1093 rfl (lv_at hl 2 rfl) ?_
  refine lv_iload hx hb dL_law_1094 (lv_at hl 1 rfl) ?_
  refine lv_iconst (v := 1) hx hb dL_law_1096 (by decide) ?_
  refine lv_iadd hx hb dL_law_1097 ?_
  refine va_sld hx hb hX hbl hbA hS (ix_in (j := 1) (by omega) hL) dL_law_1098 ?_
  refine sp_top ey1.symm ?_
  refine lv_aload_n hx hb dL_law_1099 rfl (lv_at hl 2 rfl) ?_
  refine lv_iload hx hb dL_law_1100 (lv_at hl 1 rfl) ?_
  refine lv_iconst (v := 2) hx hb dL_law_1102 (by decide) ?_
  refine lv_iadd hx hb dL_law_1103 ?_
  refine va_sld hx hb hX hbl hbA hS (ix_in (j := 2) (by omega) hL) dL_law_1104 ?_
  refine sp_top ey2.symm ?_
  refine sp_vI (rest := []) (As := [.int y1, .int y2]) (W1 := wRef cI mo g0 t0 z0 (mAdviseC y1 y2 MF g ns n tv).2 g tv (mAdvZ y1 y2 MF tv z) ++ (o, aJ cJ f2) :: hWd (rAdv y1 y2 S U V ns (KF 4) (nI tk) T n) (wRace cI cT r tr k1 k2 k3 ts ad n (nI tk) KF S U V T) (wRace cI cT r tr k1 k2 k3 ts ad n (nI tk) KF S U V (setT T 0 (cAdvT S U V ns (KF 4) (nI tk) T (y1.toNatClampNeg + 2) y2.toNatClampNeg 11)))) ⟨hx, hb, hml, hown, hts⟩ (mX3_advise l D cI cT mo g0 t0 z0 MF g tv z y1 y2 ns hR.ns0 hR.ns12 hR.m5 n hR.n6 hR.m2 hR.wd.mok) (cwV 2 hts gL_law_X3_advise rfl rfl rfl (by decide +kernel) ⟨Nat.le_of_ble_eq_true rfl, Nat.le_of_ble_eq_true rfl⟩) hK hP hD hS [0, 1, 2, 3] rfl (fun k q h => by simp at h) (sp_nsub (sp_nod2 hD) [0, 1, 2, 3] (by decide) rfl) rfl rfl rfl (ci := 3) rfl rfl rfl rfl hl.1 rfl (Nat.le_of_ble_eq_true rfl) dL_law_1105 ⟨show 20 + 6 * k + 2 ≤ 639876 by omega, show 600 + 60 * k + 12 ≤ 7176476 by omega⟩ (fun H locs hP hD hS => ?_)
  refine sp_top ev.symm ?_
  refine lv_istore (lv' := [(6, .int v9), (5, .int z9), (4, .int (nI (6 * k))), (0, .ref b), (1, .ref r), (2, .ref mo), (3, .ref o)]) hx hb dL_law_1108 hl (by decide) rfl (fun ls hl => ?_)
  refine lv_aload_n hx hb dL_law_1110 rfl (lv_at hl 5 rfl) ?_
  refine sp_rV (rest := []) (As := []) ⟨hx, hb, hml, hown, hts⟩ (mX3_thrown l D cI cT mo g0 t0 z0 (mAdviseC y1 y2 MF g ns n tv).2) (cwV 0 hts gL_law_X3_thrown rfl rfl rfl (by decide +kernel) ⟨Nat.le_of_ble_eq_true rfl, Nat.le_of_ble_eq_true rfl⟩) hK (sp_pick hP [0] rfl) (ci := 3) rfl rfl rfl rfl hl.1 rfl (Nat.le_of_ble_eq_true rfl) dL_law_1111 ⟨show 20 + 6 * k + 2 ≤ 639876 by omega, show 600 + 60 * k + 12 ≤ 7176476 by omega⟩ ?_
  refine sp_top hq.1.1 ?_
  refine sp_top hz.symm ?_
  refine lv_iload hx hb dL_law_1114 (lv_at hl 1 rfl) ?_
  refine lv_icmp_eq (tgt := 1121) hx hb dL_law_1116 (by decide) (fun _ => ?_) (fun cq => absurd rfl cq)
  refine lv_iload hx hb dL_law_1121 (lv_at hl 1 rfl) ?_
  refine lv_if_ne (tgt := 1138) hx hb dL_law_1123 (by decide) (fun cz => ?_) (fun cz => ?_)
  · skip
    refine lv_goto (tgt := 1196) hx hb dL_law_1138 (by decide) ?_
    obtain ⟨E, hres⟩ := hcode_nz (fun h => cz (hz.trans h))
    rw [hres] at hP hD
    refine W.widen (k := 20 + 6 * (k + 1)) (n := 600 + 60 * (k + 1)) (by omega) (by omega) ?_
    exact kk f2 ad n ns tk KF S U V T (mAdviseC y1 y2 MF g ns n tv).2 g tv (mAdvZ y1 y2 MF tv z) H locs ls (hq.2.2 E hres) (by omega) hP hD hS (lv_sub hl [2, 3, 4, 5, 6] rfl)
  · skip
    obtain ⟨v, hres⟩ := hcode_z nzOA (hz.symm.trans cz)
    refine lv_aload_n hx hb dL_law_1126 rfl (lv_at hl 6 rfl) ?_
    refine lv_iconst (v := 0) hx hb dL_law_1127 (by decide) ?_
    refine va_lald hx hb hJ hP 4 0 rfl rfl (show vp_in 0 1 from vp_in_nI (show 0 < 1 by decide) (by decide)) dL_law_1128 ?_
    refine sp_topl (show f2 (0 : Int32).toNatClampNeg = Int32.toInt64 v9 from (hf2 v hres).trans (by rw [hq.1.2 v hres, ev])) ?_
    refine lv_iload hx hb dL_law_1129 (lv_at hl 0 rfl) ?_
    refine lv_i2l (v := Int32.toInt64 v9) hx hb dL_law_1131 rfl ?_
    refine W.lcmp hx hb dL_law_1132 ?_
    refine lv_if_eq (tgt := 1138) hx hb dL_law_1133 (by decide) (fun _ => ?_) (fun c3 => absurd ((lg_cmp_eq _ _).mpr rfl) c3)
    refine lv_goto (tgt := 1196) hx hb dL_law_1138 (by decide) ?_
    rw [hres] at hP hD
    refine W.widen (k := 20 + 6 * (k + 1)) (n := 600 + 60 * (k + 1)) (by omega) (by omega) ?_
    exact kk f2 ad n ns tk KF S U V _ (mAdviseC y1 y2 MF g ns n tv).2 g tv (mAdvZ y1 y2 MF tv z) H locs ls (hq.2.1 v hres) (by omega) hP hD hS (lv_sub hl [2, 3, 4, 5, 6] rfl)
