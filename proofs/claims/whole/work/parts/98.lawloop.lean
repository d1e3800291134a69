/-! The law's loop -/
set_option maxHeartbeats 4000000 in
set_option maxRecDepth 100000 in
/-- the law's loop -/
theorem law_loop {p : Program} {l : Launch} {e : Env} {s : State} {m : MethodId} {args : Array Value} {below : List Frame} {meth : Method} {c : Code} {b L : Nat} {xs : Nat → Int32} {D : va_G} {cI cT cJ : ClassId} {Q : State → Prop} {mo g0 t0 z0 o r tr k1 k2 k3 ts : Nat} (C : LC p l s m args meth c b L xs D cI cT cJ) (hL : L ≤ 3072) (hend : ∀ (d0 : Drawn), s.drawn.sameBut d0 lw_cs → ∀ (cells slots : Nat) (H : Heap) (locs : List Loc) (ls : Array Slot), cells ≤ 10000 → slots ≤ 100000 → va_S (fun q => s.heap.size ≤ q) s.heap H locs → W p l e room_1 (s.setDrawn d0) m args below meth c H locs cells slots Q (F0 m 1202 ls [])) : ∀ (fu k : Nat), L < fu + 6 * k → 6 * k ≤ L → ∀ (d0 : Drawn), s.drawn.sameBut d0 lw_cs → ∀ (f : Nat → Int64) (ad : Nat → Nat → Nat) (n ns tk : Nat) (KF S U V : Nat → Int32) (T : Nat → TV) (MF g : Nat → Int32) (tv : Nat → TV) (z : Nat → Int32) (H : Heap) (locs : List Loc) (ls : Array Slot), Rel n ns tk KF S U V T MF g tv → tk ≤ 500 * k → va_P D vwCl (wRef cI mo g0 t0 z0 MF g tv z ++ (o, aJ cJ f) :: wRace cI cT r tr k1 k2 k3 ts ad n (nI tk) KF S U V T) H → va_D (fun q => s.heap.size ≤ q) (wRef cI mo g0 t0 z0 MF g tv z ++ (o, aJ cJ f) :: wRace cI cT r tr k1 k2 k3 ts ad n (nI tk) KF S U V T) → va_S (fun q => s.heap.size ≤ q) s.heap H locs → lv_has ls 9 [(4, .int (nI (6 * k))), (0, .ref b), (1, .ref r), (2, .ref mo), (3, .ref o)] → W p l e room_1 (s.setDrawn d0) m args below meth c H locs (20 + 6 * k) (600 + 60 * k) Q (F0 m 23 ls []) := by
  intro fu
  induction fu with
  | zero => intro k h1 h2; omega
  | succ fu ih =>
    intro k hfu hkL d0 hd0 f ad n ns tk KF S U V T MF g tv z H locs ls hR htk hP hD hS hl
    have C2 := C.draw d0
    obtain ⟨hx, hb, hml, hown, hts, hX, hbl, hK, hJ, hXS, hXN, hXZ, hl9⟩ := id C2
    have hbA : ¬ (fun q : Nat => s.heap.size ≤ q) b := Nat.not_le.mpr hbl
    refine lv_iload hx hb dL_law_23 (lv_at hl 0 rfl) ?_
    refine lv_aload_n hx hb dL_law_25 rfl (lv_at hl 1 rfl) ?_
    refine va_slen hx hb hX hbl hbA hS dL_law_26 ?_
    refine lv_bipush (v := 6) hx hb dL_law_27 (by decide) ?_
    refine lv_isub hx hb dL_law_29 ?_
    have e6 : (Int32.ofNat L - 6).toInt = (L : Int) - 6 := by
      have h1 : (Int32.ofNat L).toInt = (L : Int) := nI_toInt (by omega)
      rw [i_sub ⟨by omega, by omega⟩ ⟨by decide, by decide⟩, h1]; rfl
    have ek : (nI (6 * k)).toInt = ((6 * k : Nat) : Int) := nI_toInt (by omega)
    refine lv_icmp_gt (tgt := 1202) hx hb dL_law_30 (by decide) (fun _ => hend d0 hd0 _ _ H locs ls (by omega) (by omega) hS) (fun cq => ?_)
    rw [Int32.lt_iff_toInt_lt, e6, ek] at cq
    have hk : 6 * k + 6 ≤ L := by omega
    have kk : ∀ (d0 : Drawn), s.drawn.sameBut d0 lw_cs → ∀ (f : Nat → Int64) (ad : Nat → Nat → Nat) (n ns tk : Nat) (KF S U V : Nat → Int32) (T : Nat → TV) (MF g : Nat → Int32) (tv : Nat → TV) (z : Nat → Int32) (H : Heap) (locs : List Loc) (ls : Array Slot), Rel n ns tk KF S U V T MF g tv → tk ≤ 500 * (k + 1) → va_P D vwCl (wRef cI mo g0 t0 z0 MF g tv z ++ (o, aJ cJ f) :: wRace cI cT r tr k1 k2 k3 ts ad n (nI tk) KF S U V T) H → va_D (fun q => s.heap.size ≤ q) (wRef cI mo g0 t0 z0 MF g tv z ++ (o, aJ cJ f) :: wRace cI cT r tr k1 k2 k3 ts ad n (nI tk) KF S U V T) → va_S (fun q => s.heap.size ≤ q) s.heap H locs → lv_has ls 9 [(4, .int (nI (6 * k))), (0, .ref b), (1, .ref r), (2, .ref mo), (3, .ref o)] → W p l e room_1 (s.setDrawn d0) m args below meth c H locs (20 + 6 * (k + 1)) (600 + 60 * (k + 1)) Q (F0 m 1196 ls []) := by
      intro d1 hd1 f ad n ns tk KF S U V T MF g tv z H locs ls hR htk hP hD hS hl
      refine lv_iinc (v := nI (6 * (k + 1))) (lv' := [(4, .int (nI (6 * (k + 1)))), (0, .ref b), (1, .ref r), (2, .ref mo), (3, .ref o)]) hx hb dL_law_1196 hl (k := 0) rfl (nI_add (6 * k) 6) (by decide) rfl (fun ls hl => ?_)
      refine lv_goto (tgt := 23) hx hb dL_law_1199 (by decide) ?_
      exact ih (k + 1) (by omega) (by omega) d1 hd1 f ad n ns tk KF S U V T MF g tv z H locs ls hR htk hP hD hS hl
    refine lv_aload_n hx hb dL_law_33 rfl (lv_at hl 1 rfl) ?_
    refine lv_iload hx hb dL_law_34 (lv_at hl 0 rfl) ?_
    refine va_sld hx hb hX hbl hbA hS (vp_in_nI (by omega) (by omega)) dL_law_36 ?_
    refine lv_bipush (v := 31) hx hb dL_law_37 (by decide) ?_
    refine lv_iand hx hb dL_law_39 ?_
    refine lv_topi (fun w ew => ?_)
    by_cases sw0 : w = 0
    · rw [sw0]
      refine lv_tableIn (tgt := 124) hx hb dL_law_40 (by decide) (by decide) rfl (by decide) ?_
      exact lc_setLength (s := s.setDrawn d0) C2 hk hL (kk d0 hd0) f ad n ns tk KF S U V T MF g tv z H locs ls hR htk hP hD hS hl
    by_cases sw1 : w = 1
    · rw [sw1]
      refine lv_tableIn (tgt := 180) hx hb dL_law_40 (by decide) (by decide) rfl (by decide) ?_
      exact lc_lay (s := s.setDrawn d0) C2 hk hL (kk d0 hd0) f ad n ns tk KF S U V T MF g tv z H locs ls hR htk hP hD hS hl
    by_cases sw2 : w = 2
    · rw [sw2]
      refine lv_tableIn (tgt := 260) hx hb dL_law_40 (by decide) (by decide) rfl (by decide) ?_
      by_cases cg : xs (nI (6 * k) + 2).toNatClampNeg = 0
      · exact lc_ground0 (s := s.setDrawn d0) C2 hk hL cg (kk d0 hd0) f ad n ns tk KF S U V T MF g tv z H locs ls hR htk hP hD hS hl
      · exact lc_ground1 (s := s.setDrawn d0) C2 hk hL cg (kk d0 hd0) f ad n ns tk KF S U V T MF g tv z H locs ls hR htk hP hD hS hl
    by_cases sw3 : w = 3
    · rw [sw3]
      refine lv_tableIn (tgt := 344) hx hb dL_law_40 (by decide) (by decide) rfl (by decide) ?_
      exact lc_addTeam (s := s.setDrawn d0) C2 hk hL (kk d0 hd0) f ad n ns tk KF S U V T MF g tv z H locs ls hR htk hP hD hS hl
    by_cases sw4 : w = 4
    · rw [sw4]
      refine lv_tableIn (tgt := 424) hx hb dL_law_40 (by decide) (by decide) rfl (by decide) ?_
      exact lc_setCrew (s := s.setDrawn d0) C2 hk hL (kk d0 hd0) f ad n ns tk KF S U V T MF g tv z H locs ls hR htk hP hD hS hl
    by_cases sw5 : w = 5
    · rw [sw5]
      refine lv_tableIn (tgt := 528) hx hb dL_law_40 (by decide) (by decide) rfl (by decide) ?_
      exact lc_order (s := s.setDrawn d0) C2 hk hL (kk d0 hd0) f ad n ns tk KF S U V T MF g tv z H locs ls hR htk hP hD hS hl
    by_cases sw6 : w = 6
    · rw [sw6]
      refine lv_tableIn (tgt := 608) hx hb dL_law_40 (by decide) (by decide) rfl (by decide) ?_
      exact lc_run (s := s.setDrawn d0) C2 hk hL (kk d0 hd0) f ad n ns tk KF S U V T MF g tv z H locs ls hR htk hP hD hS hl
    by_cases sw7 : w = 7
    · rw [sw7]
      refine lv_tableIn (tgt := 664) hx hb dL_law_40 (by decide) (by decide) rfl (by decide) ?_
      exact lc_restart (s := s.setDrawn d0) C2 hk hL (kk d0 hd0) f ad n ns tk KF S U V T MF g tv z H locs ls hR htk hP hD hS hl
    by_cases sw8 : w = 8
    · rw [sw8]
      refine lv_tableIn (tgt := 677) hx hb dL_law_40 (by decide) (by decide) rfl (by decide) ?_
      exact lc_count (s := s.setDrawn d0) C2 hk hL (kk d0 hd0) f ad n ns tk KF S U V T MF g tv z H locs ls hR htk hP hD hS hl
    by_cases sw9 : w = 9
    · rw [sw9]
      refine lv_tableIn (tgt := 733) hx hb dL_law_40 (by decide) (by decide) rfl (by decide) ?_
      exact lc_team (s := s.setDrawn d0) C2 hk hL (kk d0 hd0) f ad n ns tk KF S U V T MF g tv z H locs ls hR htk hP hD hS hl
    by_cases sw10 : w = 10
    · rw [sw10]
      refine lv_tableIn (tgt := 801) hx hb dL_law_40 (by decide) (by decide) rfl (by decide) ?_
      exact lc_roller (s := s.setDrawn d0) C2 hk hL (kk d0 hd0) f ad n ns tk KF S U V T MF g tv z H locs ls hR htk hP hD hS hl
    by_cases sw11 : w = 11
    · rw [sw11]
      refine lv_tableIn (tgt := 869) hx hb dL_law_40 (by decide) (by decide) rfl (by decide) ?_
      exact lc_next (s := s.setDrawn d0) C2 hk hL (kk d0 hd0) f ad n ns tk KF S U V T MF g tv z H locs ls hR htk hP hD hS hl
    by_cases sw12 : w = 12
    · rw [sw12]
      refine lv_tableIn (tgt := 937) hx hb dL_law_40 (by decide) (by decide) rfl (by decide) ?_
      exact lc_ranked (s := s.setDrawn d0) C2 hk hL (kk d0 hd0) f ad n ns tk KF S U V T MF g tv z H locs ls hR htk hP hD hS hl
    by_cases sw13 : w = 13
    · rw [sw13]
      refine lv_tableIn (tgt := 993) hx hb dL_law_40 (by decide) (by decide) rfl (by decide) ?_
      exact lc_foresee (s := s.setDrawn d0) C2 hk hL (kk d0 hd0) f ad n ns tk KF S U V T MF g tv z H locs ls hR htk hP hD hS hl
    by_cases sw14 : w = 14
    · rw [sw14]
      refine lv_tableIn (tgt := 1073) hx hb dL_law_40 (by decide) (by decide) rfl (by decide) ?_
      exact lc_advise (s := s.setDrawn d0) C2 hk hL (kk d0 hd0) f ad n ns tk KF S U V T MF g tv z H locs ls hR htk hP hD hS hl
    by_cases sw15 : w = 15
    · rw [sw15]
      refine lv_tableIn (tgt := 1141) hx hb dL_law_40 (by decide) (by decide) rfl (by decide) ?_
      exact lc_mean C hk hL kk d0 hd0 f ad n ns tk KF S U V T MF g tv z H locs ls hR htk hP hD hS hl
    by_cases sw16 : w = 16
    · rw [sw16]
      refine lv_tableIn (tgt := 1182) hx hb dL_law_40 (by decide) (by decide) rfl (by decide) ?_
      exact lc_digest (s := s.setDrawn d0) C2 hk hL (kk d0 hd0) f ad n ns tk KF S U V T MF g tv z H locs ls hR htk hP hD hS hl
    refine lv_tableOut (tgt := 1196) hx hb dL_law_40 (sp_out16 sw0 sw1 sw2 sw3 sw4 sw5 sw6 sw7 sw8 sw9 sw10 sw11 sw12 sw13 sw14 sw15 sw16) (by decide) ?_
    refine W.widen (k := 20 + 6 * (k + 1)) (n := 600 + 60 * (k + 1)) (by omega) (by omega) ?_
    exact kk d0 hd0 f ad n ns tk KF S U V T MF g tv z H locs ls hR (by omega) hP hD hS hl
