abbrev rmX3_setLength : Room := { frames := 1, cells := 0, slots := 0, locals := 22 }
set_option maxHeartbeats 4000000 in
set_option maxRecDepth 100000 in
/-- setLength -/
theorem mX3_setLength (l : Launch) (D : va_G) (cI cT : ClassId) (mo g0 t0 z0 : Nat) (MF : Nat → Int32) (x : Int32) : MetI l D cI cT yX3_setLength wsX3_setLength rmX3_setLength [.ref mo, .int x] [(mo, oM MF g0 t0 z0)] [] [(mo, oM (mSetLength x MF).2 g0 t0 z0)] ((mSetLength x MF).1) := by
  refine Met.ofW (cc := cX3_setLength) (maxL := 3) (ret := (some .int)) (by decide) rfl ?_
  intro p e s m args below meth c s₁ B hml hv
  obtain ⟨hargs, hP, hR0, hK, hN⟩ := hv
  have hx := B.exec
  have hb := B.bytes
  have hr := B.returns
  have hts := atoms_spec (ws := wsX3_setLength) B.pre
  have hown : s.vm.findClass RX3 = some m.cls := findClass_of_methodNamed B.named
  have hlocks := B.notSynchronized
  have hiX3 : ∀ w ∈ u_ws RX3 TX3 9, w ∈ wsX3_setLength := by decide +kernel
  have he : entryFrame m args 3 = F0 m 0 ((lg_sl [.ref mo, .int x] ++ List.replicate (3 - (lg_sl [.ref mo, .int x]).length) Slot.unset).toArray) [] := by rw [hargs]; exact lg_entry_eq m _ _
  rw [he]
  change W p l e rmX3_setLength s m args below meth c s.heap [] 0 0 (MQ below (va_Qi (S := Unit) (fun z _ => z = (mSetLength x MF).1) (fun _ t => va_P D vwCl [(mo, oM (mSetLength x MF).2 g0 t0 z0)] t.heap) (fr (List.map Prod.fst [(mo, oM MF g0 t0 z0)]))) args s 0 0 (fr (List.map Prod.fst [(mo, oM MF g0 t0 z0)]))) _
  obtain ⟨Q, hQ⟩ : ∃ Q, Q = MQ below (va_Qi (S := Unit) (fun z _ => z = (mSetLength x MF).1) (fun _ t => va_P D vwCl [(mo, oM (mSetLength x MF).2 g0 t0 z0)] t.heap) (fr (List.map Prod.fst [(mo, oM MF g0 t0 z0)]))) args s 0 0 (fr (List.map Prod.fst [(mo, oM MF g0 t0 z0)])) := ⟨_, rfl⟩
  rw [← hQ]
  have hl := lv_entry [.ref mo, .int x] (n := 3) (Nat.le_of_ble_eq_true rfl)
  generalize (lg_sl [.ref mo, .int x] ++ List.replicate (3 - (lg_sl [.ref mo, .int x]).length) Slot.unset).toArray = ls at hl ⊢
  have hl : lv_has ls 3 [(0, .ref mo), (1, .int x)] := hl
  obtain ⟨A, hAe⟩ : ∃ A, A = (fr (List.map Prod.fst [(mo, oM MF g0 t0 z0)])) := ⟨_, rfl⟩
  have hA0 : ∀ q ∈ List.map Prod.fst [(mo, oM MF g0 t0 z0)], A q := by rw [hAe]; exact fun q h => h
  have hD : va_D A [(mo, oM MF g0 t0 z0)] := sp_D (List.nodup_append.mp (show (([(mo, oM MF g0 t0 z0)] : va_W).map Prod.fst ++ ([] : va_W).map Prod.fst).Nodup by rw [← List.map_append]; exact hN)).1 hA0
  have hN : (List.map Prod.fst ([(mo, oM MF g0 t0 z0)] ++ []) : List Nat).Nodup := hN
  have hS : va_S A s.heap s.heap [] := va_S.rf
  obtain ⟨H, hH0⟩ : ∃ H, H = s.heap := ⟨_, rfl⟩
  obtain ⟨locs, hlo⟩ : ∃ L : List Loc, L = [] := ⟨_, rfl⟩
  have hP : va_P D vwCl [(mo, oM MF g0 t0 z0)] H := by rw [hH0]; exact hP
  have hS : va_S A s.heap H locs := by rw [hH0, hlo]; exact hS
  rw [show W p l e rmX3_setLength s m args below meth c s.heap [] 0 0 Q (F0 m 0 ls []) = W p l e rmX3_setLength s m args below meth c H locs 0 0 Q (F0 m 0 ls []) by rw [hH0, hlo]]
  clear hH0 hlo
  refine lv_aload_n hx hb dX3_setLength_0 rfl (lv_at hl 0 rfl) ?_
  refine lv_iconst (v := 0) hx hb dX3_setLength_1 (by decide) ?_
  refine va_put (D := D) (ci := 3) (v := .int 0) (ty := .int) (C := RX3) (T := TX3) (N := 9) hx hb hts hiX3 tyX3 tyX3_ok nmX3 hown hK.1 hP hD hS 0 rfl rfl 0 (by decide) (hts (.fieldLink RX3 26 "SledgeRaceModel" "thrown" "I") (by decide +kernel)) (fun _ h9 => h9) rfl (by decide +kernel) rfl rfl (Nat.le_of_ble_eq_true rfl) dX3_setLength_2 (fun H locs hP hD hS => ?_)
  have hP : va_P D vwCl [(mo, oM (upd MF 0 0) g0 t0 z0)] H := hP
  have hD : va_D A [(mo, oM (upd MF 0 0) g0 t0 z0)] := hD
  refine lv_iload_n hx hb dX3_setLength_5 rfl (lv_at hl 1 rfl) ?_
  refine lv_bipush (v := 100) hx hb dX3_setLength_6 (by decide) ?_
  refine lv_sipush (v := 2000) hx hb dX3_setLength_8 (by decide) ?_
  refine sp_rS (rest := []) (As := [.int x, .int 100, .int 2000]) ⟨hx, hb, hml, hown, hts⟩ (mX3_isIn l D cI cT x 100 2000) (va_cwS 3 hts gX3_setLength_X3_isIn rfl rfl rfl (by decide +kernel) ⟨Nat.le_of_ble_eq_true rfl, Nat.le_of_ble_eq_true rfl⟩) hK (show va_P D vwCl [] _ from fun k q h => by simp at h) rfl hl.1 rfl (Nat.le_of_ble_eq_true rfl) dX3_setLength_11 ⟨Nat.le_of_ble_eq_true rfl, Nat.le_of_ble_eq_true rfl⟩ ?_
  refine sp_if_ne (tgt := 23) hx hb dX3_setLength_14 (by decide) (fun c14 => ?_) (fun c14 => ?_)
  · skip
    refine lv_aload_n hx hb dX3_setLength_23 rfl (lv_at hl 0 rfl) ?_
    refine va_get (D := D) (ci := 3) (v := .int (MF 1)) (C := RX3) (T := TX3) (N := 9) hx hb hts hiX3 hown hK.1 hP 0 rfl rfl 1 (by decide) (hts (.fieldLink RX3 40 "SledgeRaceModel" "tick" "I") (by decide +kernel)) (fun _ h9 => h9) rfl dX3_setLength_24 ?_
    refine lv_if_eq (tgt := 36) hx hb dX3_setLength_27 (by decide) (fun c27 => ?_) (fun c27 => ?_)
    · skip
      refine lv_aload_n hx hb dX3_setLength_36 rfl (lv_at hl 0 rfl) ?_
      refine va_get (D := D) (ci := 3) (v := .int (MF 3)) (C := RX3) (T := TX3) (N := 9) hx hb hts hiX3 hown hK.1 hP 0 rfl rfl 3 (by decide) (hts (.fieldLink RX3 9 "SledgeRaceModel" "length" "I") (by decide +kernel)) (fun _ h9 => h9) rfl dX3_setLength_37 ?_
      refine lv_istore_n (lv' := [(2, .int (MF 3)), (0, .ref mo), (1, .int x)]) hx hb dX3_setLength_40 rfl hl (by decide) rfl (fun ls hl => ?_)
      refine lv_aload_n hx hb dX3_setLength_41 rfl (lv_at hl 1 rfl) ?_
      refine lv_iload_n hx hb dX3_setLength_42 rfl (lv_at hl 2 rfl) ?_
      refine va_put (D := D) (ci := 3) (v := .int x) (ty := .int) (C := RX3) (T := TX3) (N := 9) hx hb hts hiX3 tyX3 tyX3_ok nmX3 hown hK.1 hP hD hS 0 rfl rfl 3 (by decide) (hts (.fieldLink RX3 9 "SledgeRaceModel" "length" "I") (by decide +kernel)) (fun _ h9 => h9) rfl (by decide +kernel) rfl rfl (Nat.le_of_ble_eq_true rfl) dX3_setLength_43 (fun H locs hP hD hS => ?_)
      have hP : va_P D vwCl [(mo, oM (upd (upd MF 0 0) 3 x) g0 t0 z0)] H := hP
      have hD : va_D A [(mo, oM (upd (upd MF 0 0) 3 x) g0 t0 z0)] := hD
      refine lv_iload_n hx hb dX3_setLength_46 rfl (lv_at hl 0 rfl) ?_
      have eq9 : (mSetLength x MF) = (MF 3, upd (upd MF 0 0) 3 x) := by unfold mSetLength; rw [if_pos c14, if_pos c27]
      refine sp_top (show MF 3 = (mSetLength x MF).1 from by rw [eq9]) ?_
      subst hQ
      have hP9 : va_P D vwCl [(mo, oM (mSetLength x MF).2 g0 t0 z0)] H := by rw [eq9]; exact hP
      subst hAe
      exact W.iret hx hb hr (fun t ht hW => ⟨⟨_, (), rfl, rfl, by show va_P D vwCl _ t.heap; rw [ht]; exact hP9⟩, hS.F ht⟩) hS.2.2 dX3_setLength_47
    · skip
      refine lv_aload_n hx hb dX3_setLength_30 rfl (lv_at hl 0 rfl) ?_
      refine lv_iconst (v := 2) hx hb dX3_setLength_31 (by decide) ?_
      refine sp_vI (rest := []) (As := [.int 2]) (W1 := [(mo, oM (upd (upd MF 0 0) 0 2) g0 t0 z0)]) ⟨hx, hb, hml, hown, hts⟩ (mX3_fail l D cI cT mo g0 t0 z0 (upd MF 0 0) 2) (cwV 1 hts gX3_setLength_X3_fail rfl rfl rfl (by decide +kernel) ⟨Nat.le_of_ble_eq_true rfl, Nat.le_of_ble_eq_true rfl⟩) hK hP hD hS [0] rfl (fun k q h => by simp at h) (sp_nsub hN [0] (by decide) rfl) rfl rfl rfl (ci := 3) rfl rfl rfl rfl hl.1 rfl (Nat.le_of_ble_eq_true rfl) dX3_setLength_32 ⟨Nat.le_of_ble_eq_true rfl, Nat.le_of_ble_eq_true rfl⟩ (fun H locs hP hD hS => ?_)
      have eq9 : (mSetLength x MF) = (0, upd MF 0 2) := by unfold mSetLength; rw [if_pos c14, if_neg c27]
      refine sp_top (show 0 = (mSetLength x MF).1 from by rw [eq9]) ?_
      subst hQ
      have hP9 : va_P D vwCl [(mo, oM (mSetLength x MF).2 g0 t0 z0)] H := by rw [eq9]; exact hP
      subst hAe
      exact W.iret hx hb hr (fun t ht hW => ⟨⟨_, (), rfl, rfl, by show va_P D vwCl _ t.heap; rw [ht]; exact hP9⟩, hS.F ht⟩) hS.2.2 dX3_setLength_35
  · skip
    refine lv_aload_n hx hb dX3_setLength_17 rfl (lv_at hl 0 rfl) ?_
    refine lv_iconst (v := 1) hx hb dX3_setLength_18 (by decide) ?_
    refine sp_vI (rest := []) (As := [.int 1]) (W1 := [(mo, oM (upd (upd MF 0 0) 0 1) g0 t0 z0)]) ⟨hx, hb, hml, hown, hts⟩ (mX3_fail l D cI cT mo g0 t0 z0 (upd MF 0 0) 1) (cwV 1 hts gX3_setLength_X3_fail rfl rfl rfl (by decide +kernel) ⟨Nat.le_of_ble_eq_true rfl, Nat.le_of_ble_eq_true rfl⟩) hK hP hD hS [0] rfl (fun k q h => by simp at h) (sp_nsub hN [0] (by decide) rfl) rfl rfl rfl (ci := 3) rfl rfl rfl rfl hl.1 rfl (Nat.le_of_ble_eq_true rfl) dX3_setLength_19 ⟨Nat.le_of_ble_eq_true rfl, Nat.le_of_ble_eq_true rfl⟩ (fun H locs hP hD hS => ?_)
    have eq9 : (mSetLength x MF) = (0, upd MF 0 1) := by unfold mSetLength; rw [if_neg (by rw [c14]; decide)]
    refine sp_top (show 0 = (mSetLength x MF).1 from by rw [eq9]) ?_
    subst hQ
    have hP9 : va_P D vwCl [(mo, oM (mSetLength x MF).2 g0 t0 z0)] H := by rw [eq9]; exact hP
    subst hAe
    exact W.iret hx hb hr (fun t ht hW => ⟨⟨_, (), rfl, rfl, by show va_P D vwCl _ t.heap; rw [ht]; exact hP9⟩, hS.F ht⟩) hS.2.2 dX3_setLength_22

abbrev rmX3_ground : Room := { frames := 1, cells := 0, slots := 0, locals := 22 }
set_option maxHeartbeats 4000000 in
set_option maxRecDepth 100000 in
/-- ground -/
theorem mX3_ground0 (l : Launch) (D : va_G) (cI cT : ClassId) (mo g0 t0 z0 : Nat) (MF : Nat → Int32) (g : Nat → Int32) (x : Int32) (ns : Nat) (hns0 : 0 < ns) (hns : ns ≤ 12) (h5 : MF 5 = nI ns) : MetI l D cI cT yX3_ground wsX3_ground rmX3_ground [.ref mo, .int x, .int 0] [(mo, oM MF g0 t0 z0), (g0, aI cI 39 g)] [] [(mo, oM (mGround x 1 MF g ns).2 g0 t0 z0), (g0, aI cI 39 g)] ((mGround x 1 MF g ns).1) := by
  refine Met.ofW (cc := cX3_ground) (maxL := 3) (ret := (some .int)) (by decide) rfl ?_
  intro p e s m args below meth c s₁ B hml hv
  obtain ⟨hargs, hP, hR0, hK, hN⟩ := hv
  have hx := B.exec
  have hb := B.bytes
  have hr := B.returns
  have hts := atoms_spec (ws := wsX3_ground) B.pre
  have hown : s.vm.findClass RX3 = some m.cls := findClass_of_methodNamed B.named
  have hlocks := B.notSynchronized
  have hiX3 : ∀ w ∈ u_ws RX3 TX3 9, w ∈ wsX3_ground := by decide +kernel
  have he : entryFrame m args 3 = F0 m 0 ((lg_sl [.ref mo, .int x, .int 0] ++ List.replicate (3 - (lg_sl [.ref mo, .int x, .int 0]).length) Slot.unset).toArray) [] := by rw [hargs]; exact lg_entry_eq m _ _
  rw [he]
  change W p l e rmX3_ground s m args below meth c s.heap [] 0 0 (MQ below (va_Qi (S := Unit) (fun z _ => z = (mGround x 1 MF g ns).1) (fun _ t => va_P D vwCl [(mo, oM (mGround x 1 MF g ns).2 g0 t0 z0), (g0, aI cI 39 g)] t.heap) (fr (List.map Prod.fst [(mo, oM MF g0 t0 z0), (g0, aI cI 39 g)]))) args s 0 0 (fr (List.map Prod.fst [(mo, oM MF g0 t0 z0), (g0, aI cI 39 g)]))) _
  obtain ⟨Q, hQ⟩ : ∃ Q, Q = MQ below (va_Qi (S := Unit) (fun z _ => z = (mGround x 1 MF g ns).1) (fun _ t => va_P D vwCl [(mo, oM (mGround x 1 MF g ns).2 g0 t0 z0), (g0, aI cI 39 g)] t.heap) (fr (List.map Prod.fst [(mo, oM MF g0 t0 z0), (g0, aI cI 39 g)]))) args s 0 0 (fr (List.map Prod.fst [(mo, oM MF g0 t0 z0), (g0, aI cI 39 g)])) := ⟨_, rfl⟩
  rw [← hQ]
  have hl := lv_entry [.ref mo, .int x, .int 0] (n := 3) (Nat.le_of_ble_eq_true rfl)
  generalize (lg_sl [.ref mo, .int x, .int 0] ++ List.replicate (3 - (lg_sl [.ref mo, .int x, .int 0]).length) Slot.unset).toArray = ls at hl ⊢
  have hl : lv_has ls 3 [(0, .ref mo), (1, .int x), (2, .int 0)] := hl
  obtain ⟨A, hAe⟩ : ∃ A, A = (fr (List.map Prod.fst [(mo, oM MF g0 t0 z0), (g0, aI cI 39 g)])) := ⟨_, rfl⟩
  have hA0 : ∀ q ∈ List.map Prod.fst [(mo, oM MF g0 t0 z0), (g0, aI cI 39 g)], A q := by rw [hAe]; exact fun q h => h
  have hD : va_D A [(mo, oM MF g0 t0 z0), (g0, aI cI 39 g)] := sp_D (List.nodup_append.mp (show (([(mo, oM MF g0 t0 z0), (g0, aI cI 39 g)] : va_W).map Prod.fst ++ ([] : va_W).map Prod.fst).Nodup by rw [← List.map_append]; exact hN)).1 hA0
  have hN : (List.map Prod.fst ([(mo, oM MF g0 t0 z0), (g0, aI cI 39 g)] ++ []) : List Nat).Nodup := hN
  have hS : va_S A s.heap s.heap [] := va_S.rf
  obtain ⟨H, hH0⟩ : ∃ H, H = s.heap := ⟨_, rfl⟩
  obtain ⟨locs, hlo⟩ : ∃ L : List Loc, L = [] := ⟨_, rfl⟩
  have hP : va_P D vwCl [(mo, oM MF g0 t0 z0), (g0, aI cI 39 g)] H := by rw [hH0]; exact hP
  have hS : va_S A s.heap H locs := by rw [hH0, hlo]; exact hS
  rw [show W p l e rmX3_ground s m args below meth c s.heap [] 0 0 Q (F0 m 0 ls []) = W p l e rmX3_ground s m args below meth c H locs 0 0 Q (F0 m 0 ls []) by rw [hH0, hlo]]
  clear hH0 hlo
  refine lv_aload_n hx hb dX3_ground_0 rfl (lv_at hl 0 rfl) ?_
  refine lv_iconst (v := 0) hx hb dX3_ground_1 (by decide) ?_
  refine va_put (D := D) (ci := 3) (v := .int 0) (ty := .int) (C := RX3) (T := TX3) (N := 9) hx hb hts hiX3 tyX3 tyX3_ok nmX3 hown hK.1 hP hD hS 0 rfl rfl 0 (by decide) (hts (.fieldLink RX3 26 "SledgeRaceModel" "thrown" "I") (by decide +kernel)) (fun _ h9 => h9) rfl (by decide +kernel) rfl rfl (Nat.le_of_ble_eq_true rfl) dX3_ground_2 (fun H locs hP hD hS => ?_)
  have hP : va_P D vwCl [(mo, oM (upd MF 0 0) g0 t0 z0), (g0, aI cI 39 g)] H := hP
  have hD : va_D A [(mo, oM (upd MF 0 0) g0 t0 z0), (g0, aI cI 39 g)] := hD
  refine lv_iload_n hx hb dX3_ground_5 rfl (lv_at hl 1 rfl) ?_
  refine lv_bipush (v := (-100)) hx hb dX3_ground_6 (by decide) ?_
  refine lv_sipush (v := 3000) hx hb dX3_ground_8 (by decide) ?_
  refine sp_rS (rest := []) (As := [.int x, .int (-100), .int 3000]) ⟨hx, hb, hml, hown, hts⟩ (mX3_isIn l D cI cT x (-100) 3000) (va_cwS 3 hts gX3_ground_X3_isIn rfl rfl rfl (by decide +kernel) ⟨Nat.le_of_ble_eq_true rfl, Nat.le_of_ble_eq_true rfl⟩) hK (show va_P D vwCl [] _ from fun k q h => by simp at h) rfl hl.1 rfl (Nat.le_of_ble_eq_true rfl) dX3_ground_11 ⟨Nat.le_of_ble_eq_true rfl, Nat.le_of_ble_eq_true rfl⟩ ?_
  refine sp_if_eq (tgt := 42) hx hb dX3_ground_14 (by decide) (fun c14 => ?_) (fun c14 => ?_)
  · skip
    refine lv_aload_n hx hb dX3_ground_42 rfl (lv_at hl 0 rfl) ?_
    refine lv_iconst (v := 1) hx hb dX3_ground_43 (by decide) ?_
    refine sp_vI (rest := []) (As := [.int 1]) (W1 := [(mo, oM (upd (upd MF 0 0) 0 1) g0 t0 z0), (g0, aI cI 39 g)]) ⟨hx, hb, hml, hown, hts⟩ (mX3_fail l D cI cT mo g0 t0 z0 (upd MF 0 0) 1) (cwV 1 hts gX3_ground_X3_fail rfl rfl rfl (by decide +kernel) ⟨Nat.le_of_ble_eq_true rfl, Nat.le_of_ble_eq_true rfl⟩) hK hP hD hS [0] rfl (fun k q h => by simp at h) (sp_nsub hN [0] (by decide) rfl) rfl rfl rfl (ci := 3) rfl rfl rfl rfl hl.1 rfl (Nat.le_of_ble_eq_true rfl) dX3_ground_44 ⟨Nat.le_of_ble_eq_true rfl, Nat.le_of_ble_eq_true rfl⟩ (fun H locs hP hD hS => ?_)
    have eq9 : (mGround x 1 MF g ns) = (0, upd MF 0 1) := by unfold mGround; rw [if_neg (by rw [c14]; decide)]
    refine sp_top (show 0 = (mGround x 1 MF g ns).1 from by rw [eq9]) ?_
    subst hQ
    have hP9 : va_P D vwCl [(mo, oM (mGround x 1 MF g ns).2 g0 t0 z0), (g0, aI cI 39 g)] H := by rw [eq9]; exact hP
    subst hAe
    exact W.iret hx hb hr (fun t ht hW => ⟨⟨_, (), rfl, rfl, by show va_P D vwCl _ t.heap; rw [ht]; exact hP9⟩, hS.F ht⟩) hS.2.2 dX3_ground_47
  · skip
    refine lv_aload_n hx hb dX3_ground_17 rfl (lv_at hl 0 rfl) ?_
    refine va_get (D := D) (ci := 3) (v := .ref g0) (C := RX3) (T := TX3) (N := 9) hx hb hts hiX3 hown hK.1 hP 0 rfl rfl 6 (by decide) (hts (.fieldLink RX3 16 "SledgeRaceModel" "ground" "[I") (by decide +kernel)) (fun _ h9 => h9) rfl dX3_ground_18 ?_
    refine lv_iconst (v := nI 3) hx hb dX3_ground_21 (by decide) ?_
    refine lv_aload_n hx hb dX3_ground_22 rfl (lv_at hl 0 rfl) ?_
    refine lv_iload_n hx hb dX3_ground_23 rfl (lv_at hl 1 rfl) ?_
    have hstr := mStr_le g x (ns - 1)
    refine sp_rV (rest := [.int (nI 3), .ref g0]) (As := [.int x]) ⟨hx, hb, hml, hown, hts⟩ (mX3_stretchAt l D cI cT mo g0 t0 z0 (upd MF 0 0) g x ns hns0 hns h5) (cwV 1 hts gX3_ground_X3_stretchAt rfl rfl rfl (by decide +kernel) ⟨Nat.le_of_ble_eq_true rfl, Nat.le_of_ble_eq_true rfl⟩) hK (sp_pick hP [0, 1] rfl) (ci := 3) rfl rfl rfl rfl hl.1 rfl (Nat.le_of_ble_eq_true rfl) dX3_ground_24 ⟨Nat.le_of_ble_eq_true rfl, Nat.le_of_ble_eq_true rfl⟩ ?_
    refine lv_imul hx hb dX3_ground_27 ?_
    refine sp_top (pk_mul 3 (mStr g x (ns - 1)) : (nI 3) * (nI (mStr g x (ns - 1))) = nI (3 * (mStr g x (ns - 1)))) ?_
    refine lv_iload_n hx hb dX3_ground_28 rfl (lv_at hl 2 rfl) ?_
    refine lv_if_eq (tgt := 36) hx hb dX3_ground_29 (by decide) (fun _ => ?_) (fun c29 => absurd c29 (by decide))
    refine lv_iconst (v := nI 1) hx hb dX3_ground_36 (by decide) ?_
    refine lv_iadd hx hb dX3_ground_37 ?_
    refine sp_top (nI_add (3 * (mStr g x (ns - 1))) 1 : (nI (3 * (mStr g x (ns - 1)))) + (nI 1) = nI (3 * (mStr g x (ns - 1)) + 1)) ?_
    refine sp_iald hx hb hK.1 hP 1 0 rfl rfl (by omega) (by omega) dX3_ground_38 ?_
    refine lv_goto (tgt := 47) hx hb dX3_ground_39 (by decide) ?_
    have eq9 : (mGround x 1 MF g ns) = (g (3 * mStr g x (ns - 1) + 1), upd MF 0 0) := by unfold mGround; rw [if_pos c14]
    refine sp_top (show g (3 * (mStr g x (ns - 1)) + 1) = (mGround x 1 MF g ns).1 from by rw [eq9]) ?_
    subst hQ
    have hP9 : va_P D vwCl [(mo, oM (mGround x 1 MF g ns).2 g0 t0 z0), (g0, aI cI 39 g)] H := by rw [eq9]; exact hP
    subst hAe
    exact W.iret hx hb hr (fun t ht hW => ⟨⟨_, (), rfl, rfl, by show va_P D vwCl _ t.heap; rw [ht]; exact hP9⟩, hS.F ht⟩) hS.2.2 dX3_ground_47

set_option maxHeartbeats 4000000 in
set_option maxRecDepth 100000 in
/-- ground -/
theorem mX3_ground1 (l : Launch) (D : va_G) (cI cT : ClassId) (mo g0 t0 z0 : Nat) (MF : Nat → Int32) (g : Nat → Int32) (x : Int32) (ns : Nat) (hns0 : 0 < ns) (hns : ns ≤ 12) (h5 : MF 5 = nI ns) : MetI l D cI cT yX3_ground wsX3_ground rmX3_ground [.ref mo, .int x, .int 1] [(mo, oM MF g0 t0 z0), (g0, aI cI 39 g)] [] [(mo, oM (mGround x 2 MF g ns).2 g0 t0 z0), (g0, aI cI 39 g)] ((mGround x 2 MF g ns).1) := by
  refine Met.ofW (cc := cX3_ground) (maxL := 3) (ret := (some .int)) (by decide) rfl ?_
  intro p e s m args below meth c s₁ B hml hv
  obtain ⟨hargs, hP, hR0, hK, hN⟩ := hv
  have hx := B.exec
  have hb := B.bytes
  have hr := B.returns
  have hts := atoms_spec (ws := wsX3_ground) B.pre
  have hown : s.vm.findClass RX3 = some m.cls := findClass_of_methodNamed B.named
  have hlocks := B.notSynchronized
  have hiX3 : ∀ w ∈ u_ws RX3 TX3 9, w ∈ wsX3_ground := by decide +kernel
  have he : entryFrame m args 3 = F0 m 0 ((lg_sl [.ref mo, .int x, .int 1] ++ List.replicate (3 - (lg_sl [.ref mo, .int x, .int 1]).length) Slot.unset).toArray) [] := by rw [hargs]; exact lg_entry_eq m _ _
  rw [he]
  change W p l e rmX3_ground s m args below meth c s.heap [] 0 0 (MQ below (va_Qi (S := Unit) (fun z _ => z = (mGround x 2 MF g ns).1) (fun _ t => va_P D vwCl [(mo, oM (mGround x 2 MF g ns).2 g0 t0 z0), (g0, aI cI 39 g)] t.heap) (fr (List.map Prod.fst [(mo, oM MF g0 t0 z0), (g0, aI cI 39 g)]))) args s 0 0 (fr (List.map Prod.fst [(mo, oM MF g0 t0 z0), (g0, aI cI 39 g)]))) _
  obtain ⟨Q, hQ⟩ : ∃ Q, Q = MQ below (va_Qi (S := Unit) (fun z _ => z = (mGround x 2 MF g ns).1) (fun _ t => va_P D vwCl [(mo, oM (mGround x 2 MF g ns).2 g0 t0 z0), (g0, aI cI 39 g)] t.heap) (fr (List.map Prod.fst [(mo, oM MF g0 t0 z0), (g0, aI cI 39 g)]))) args s 0 0 (fr (List.map Prod.fst [(mo, oM MF g0 t0 z0), (g0, aI cI 39 g)])) := ⟨_, rfl⟩
  rw [← hQ]
  have hl := lv_entry [.ref mo, .int x, .int 1] (n := 3) (Nat.le_of_ble_eq_true rfl)
  generalize (lg_sl [.ref mo, .int x, .int 1] ++ List.replicate (3 - (lg_sl [.ref mo, .int x, .int 1]).length) Slot.unset).toArray = ls at hl ⊢
  have hl : lv_has ls 3 [(0, .ref mo), (1, .int x), (2, .int 1)] := hl
  obtain ⟨A, hAe⟩ : ∃ A, A = (fr (List.map Prod.fst [(mo, oM MF g0 t0 z0), (g0, aI cI 39 g)])) := ⟨_, rfl⟩
  have hA0 : ∀ q ∈ List.map Prod.fst [(mo, oM MF g0 t0 z0), (g0, aI cI 39 g)], A q := by rw [hAe]; exact fun q h => h
  have hD : va_D A [(mo, oM MF g0 t0 z0), (g0, aI cI 39 g)] := sp_D (List.nodup_append.mp (show (([(mo, oM MF g0 t0 z0), (g0, aI cI 39 g)] : va_W).map Prod.fst ++ ([] : va_W).map Prod.fst).Nodup by rw [← List.map_append]; exact hN)).1 hA0
  have hN : (List.map Prod.fst ([(mo, oM MF g0 t0 z0), (g0, aI cI 39 g)] ++ []) : List Nat).Nodup := hN
  have hS : va_S A s.heap s.heap [] := va_S.rf
  obtain ⟨H, hH0⟩ : ∃ H, H = s.heap := ⟨_, rfl⟩
  obtain ⟨locs, hlo⟩ : ∃ L : List Loc, L = [] := ⟨_, rfl⟩
  have hP : va_P D vwCl [(mo, oM MF g0 t0 z0), (g0, aI cI 39 g)] H := by rw [hH0]; exact hP
  have hS : va_S A s.heap H locs := by rw [hH0, hlo]; exact hS
  rw [show W p l e rmX3_ground s m args below meth c s.heap [] 0 0 Q (F0 m 0 ls []) = W p l e rmX3_ground s m args below meth c H locs 0 0 Q (F0 m 0 ls []) by rw [hH0, hlo]]
  clear hH0 hlo
  refine lv_aload_n hx hb dX3_ground_0 rfl (lv_at hl 0 rfl) ?_
  refine lv_iconst (v := 0) hx hb dX3_ground_1 (by decide) ?_
  refine va_put (D := D) (ci := 3) (v := .int 0) (ty := .int) (C := RX3) (T := TX3) (N := 9) hx hb hts hiX3 tyX3 tyX3_ok nmX3 hown hK.1 hP hD hS 0 rfl rfl 0 (by decide) (hts (.fieldLink RX3 26 "SledgeRaceModel" "thrown" "I") (by decide +kernel)) (fun _ h9 => h9) rfl (by decide +kernel) rfl rfl (Nat.le_of_ble_eq_true rfl) dX3_ground_2 (fun H locs hP hD hS => ?_)
  have hP : va_P D vwCl [(mo, oM (upd MF 0 0) g0 t0 z0), (g0, aI cI 39 g)] H := hP
  have hD : va_D A [(mo, oM (upd MF 0 0) g0 t0 z0), (g0, aI cI 39 g)] := hD
  refine lv_iload_n hx hb dX3_ground_5 rfl (lv_at hl 1 rfl) ?_
  refine lv_bipush (v := (-100)) hx hb dX3_ground_6 (by decide) ?_
  refine lv_sipush (v := 3000) hx hb dX3_ground_8 (by decide) ?_
  refine sp_rS (rest := []) (As := [.int x, .int (-100), .int 3000]) ⟨hx, hb, hml, hown, hts⟩ (mX3_isIn l D cI cT x (-100) 3000) (va_cwS 3 hts gX3_ground_X3_isIn rfl rfl rfl (by decide +kernel) ⟨Nat.le_of_ble_eq_true rfl, Nat.le_of_ble_eq_true rfl⟩) hK (show va_P D vwCl [] _ from fun k q h => by simp at h) rfl hl.1 rfl (Nat.le_of_ble_eq_true rfl) dX3_ground_11 ⟨Nat.le_of_ble_eq_true rfl, Nat.le_of_ble_eq_true rfl⟩ ?_
  refine sp_if_eq (tgt := 42) hx hb dX3_ground_14 (by decide) (fun c14 => ?_) (fun c14 => ?_)
  · skip
    refine lv_aload_n hx hb dX3_ground_42 rfl (lv_at hl 0 rfl) ?_
    refine lv_iconst (v := 1) hx hb dX3_ground_43 (by decide) ?_
    refine sp_vI (rest := []) (As := [.int 1]) (W1 := [(mo, oM (upd (upd MF 0 0) 0 1) g0 t0 z0), (g0, aI cI 39 g)]) ⟨hx, hb, hml, hown, hts⟩ (mX3_fail l D cI cT mo g0 t0 z0 (upd MF 0 0) 1) (cwV 1 hts gX3_ground_X3_fail rfl rfl rfl (by decide +kernel) ⟨Nat.le_of_ble_eq_true rfl, Nat.le_of_ble_eq_true rfl⟩) hK hP hD hS [0] rfl (fun k q h => by simp at h) (sp_nsub hN [0] (by decide) rfl) rfl rfl rfl (ci := 3) rfl rfl rfl rfl hl.1 rfl (Nat.le_of_ble_eq_true rfl) dX3_ground_44 ⟨Nat.le_of_ble_eq_true rfl, Nat.le_of_ble_eq_true rfl⟩ (fun H locs hP hD hS => ?_)
    have eq9 : (mGround x 2 MF g ns) = (0, upd MF 0 1) := by unfold mGround; rw [if_neg (by rw [c14]; decide)]
    refine sp_top (show 0 = (mGround x 2 MF g ns).1 from by rw [eq9]) ?_
    subst hQ
    have hP9 : va_P D vwCl [(mo, oM (mGround x 2 MF g ns).2 g0 t0 z0), (g0, aI cI 39 g)] H := by rw [eq9]; exact hP
    subst hAe
    exact W.iret hx hb hr (fun t ht hW => ⟨⟨_, (), rfl, rfl, by show va_P D vwCl _ t.heap; rw [ht]; exact hP9⟩, hS.F ht⟩) hS.2.2 dX3_ground_47
  · skip
    refine lv_aload_n hx hb dX3_ground_17 rfl (lv_at hl 0 rfl) ?_
    refine va_get (D := D) (ci := 3) (v := .ref g0) (C := RX3) (T := TX3) (N := 9) hx hb hts hiX3 hown hK.1 hP 0 rfl rfl 6 (by decide) (hts (.fieldLink RX3 16 "SledgeRaceModel" "ground" "[I") (by decide +kernel)) (fun _ h9 => h9) rfl dX3_ground_18 ?_
    refine lv_iconst (v := nI 3) hx hb dX3_ground_21 (by decide) ?_
    refine lv_aload_n hx hb dX3_ground_22 rfl (lv_at hl 0 rfl) ?_
    refine lv_iload_n hx hb dX3_ground_23 rfl (lv_at hl 1 rfl) ?_
    have hstr := mStr_le g x (ns - 1)
    refine sp_rV (rest := [.int (nI 3), .ref g0]) (As := [.int x]) ⟨hx, hb, hml, hown, hts⟩ (mX3_stretchAt l D cI cT mo g0 t0 z0 (upd MF 0 0) g x ns hns0 hns h5) (cwV 1 hts gX3_ground_X3_stretchAt rfl rfl rfl (by decide +kernel) ⟨Nat.le_of_ble_eq_true rfl, Nat.le_of_ble_eq_true rfl⟩) hK (sp_pick hP [0, 1] rfl) (ci := 3) rfl rfl rfl rfl hl.1 rfl (Nat.le_of_ble_eq_true rfl) dX3_ground_24 ⟨Nat.le_of_ble_eq_true rfl, Nat.le_of_ble_eq_true rfl⟩ ?_
    refine lv_imul hx hb dX3_ground_27 ?_
    refine sp_top (pk_mul 3 (mStr g x (ns - 1)) : (nI 3) * (nI (mStr g x (ns - 1))) = nI (3 * (mStr g x (ns - 1)))) ?_
    refine lv_iload_n hx hb dX3_ground_28 rfl (lv_at hl 2 rfl) ?_
    refine lv_if_eq (tgt := 36) hx hb dX3_ground_29 (by decide) (fun c29 => absurd c29 (by decide)) (fun _ => ?_)
    refine lv_iconst (v := nI 2) hx hb dX3_ground_32 (by decide) ?_
    refine lv_goto (tgt := 37) hx hb dX3_ground_33 (by decide) ?_
    refine lv_iadd hx hb dX3_ground_37 ?_
    refine sp_top (nI_add (3 * (mStr g x (ns - 1))) 2 : (nI (3 * (mStr g x (ns - 1)))) + (nI 2) = nI (3 * (mStr g x (ns - 1)) + 2)) ?_
    refine sp_iald hx hb hK.1 hP 1 0 rfl rfl (by omega) (by omega) dX3_ground_38 ?_
    refine lv_goto (tgt := 47) hx hb dX3_ground_39 (by decide) ?_
    have eq9 : (mGround x 2 MF g ns) = (g (3 * mStr g x (ns - 1) + 2), upd MF 0 0) := by unfold mGround; rw [if_pos c14]
    refine sp_top (show g (3 * (mStr g x (ns - 1)) + 2) = (mGround x 2 MF g ns).1 from by rw [eq9]) ?_
    subst hQ
    have hP9 : va_P D vwCl [(mo, oM (mGround x 2 MF g ns).2 g0 t0 z0), (g0, aI cI 39 g)] H := by rw [eq9]; exact hP
    subst hAe
    exact W.iret hx hb hr (fun t ht hW => ⟨⟨_, (), rfl, rfl, by show va_P D vwCl _ t.heap; rw [ht]; exact hP9⟩, hS.F ht⟩) hS.2.2 dX3_ground_47

abbrev rmX3_order : Room := { frames := 2, cells := 0, slots := 0, locals := 43 }
set_option maxHeartbeats 4000000 in
set_option maxRecDepth 100000 in
/-- order -/
theorem mX3_order (l : Launch) (D : va_G) (cI cT : ClassId) (mo g0 t0 z0 : Nat) (MF : Nat → Int32) (tv : Nat → TV) (x ef w : Int32) (nt : Nat) (hnt : nt ≤ 6) (ht : MF 2 = nI nt) : MetI l D cI cT yX3_order wsX3_order rmX3_order [.ref mo, .int x, .int ef, .int w] [(mo, oM MF g0 t0 z0), (t0, aI cI 174 (tab tv))] [] [(mo, oM (mOrder x ef w MF tv).2.1 g0 t0 z0), (t0, aI cI 174 (tab (mOrder x ef w MF tv).2.2))] ((mOrder x ef w MF tv).1) := by
  refine Met.ofW (cc := cX3_order) (maxL := 5) (ret := (some .int)) (by decide) rfl ?_
  intro p e s m args below meth c s₁ B hml hv
  obtain ⟨hargs, hP, hR0, hK, hN⟩ := hv
  have hx := B.exec
  have hb := B.bytes
  have hr := B.returns
  have hts := atoms_spec (ws := wsX3_order) B.pre
  have hown : s.vm.findClass RX3 = some m.cls := findClass_of_methodNamed B.named
  have hlocks := B.notSynchronized
  have hiX3 : ∀ w ∈ u_ws RX3 TX3 9, w ∈ wsX3_order := by decide +kernel
  have he : entryFrame m args 5 = F0 m 0 ((lg_sl [.ref mo, .int x, .int ef, .int w] ++ List.replicate (5 - (lg_sl [.ref mo, .int x, .int ef, .int w]).length) Slot.unset).toArray) [] := by rw [hargs]; exact lg_entry_eq m _ _
  rw [he]
  change W p l e rmX3_order s m args below meth c s.heap [] 0 0 (MQ below (va_Qi (S := Unit) (fun z _ => z = (mOrder x ef w MF tv).1) (fun _ t => va_P D vwCl [(mo, oM (mOrder x ef w MF tv).2.1 g0 t0 z0), (t0, aI cI 174 (tab (mOrder x ef w MF tv).2.2))] t.heap) (fr (List.map Prod.fst [(mo, oM MF g0 t0 z0), (t0, aI cI 174 (tab tv))]))) args s 0 0 (fr (List.map Prod.fst [(mo, oM MF g0 t0 z0), (t0, aI cI 174 (tab tv))]))) _
  obtain ⟨Q, hQ⟩ : ∃ Q, Q = MQ below (va_Qi (S := Unit) (fun z _ => z = (mOrder x ef w MF tv).1) (fun _ t => va_P D vwCl [(mo, oM (mOrder x ef w MF tv).2.1 g0 t0 z0), (t0, aI cI 174 (tab (mOrder x ef w MF tv).2.2))] t.heap) (fr (List.map Prod.fst [(mo, oM MF g0 t0 z0), (t0, aI cI 174 (tab tv))]))) args s 0 0 (fr (List.map Prod.fst [(mo, oM MF g0 t0 z0), (t0, aI cI 174 (tab tv))])) := ⟨_, rfl⟩
  rw [← hQ]
  have hl := lv_entry [.ref mo, .int x, .int ef, .int w] (n := 5) (Nat.le_of_ble_eq_true rfl)
  generalize (lg_sl [.ref mo, .int x, .int ef, .int w] ++ List.replicate (5 - (lg_sl [.ref mo, .int x, .int ef, .int w]).length) Slot.unset).toArray = ls at hl ⊢
  have hl : lv_has ls 5 [(0, .ref mo), (1, .int x), (2, .int ef), (3, .int w)] := hl
  obtain ⟨A, hAe⟩ : ∃ A, A = (fr (List.map Prod.fst [(mo, oM MF g0 t0 z0), (t0, aI cI 174 (tab tv))])) := ⟨_, rfl⟩
  have hA0 : ∀ q ∈ List.map Prod.fst [(mo, oM MF g0 t0 z0), (t0, aI cI 174 (tab tv))], A q := by rw [hAe]; exact fun q h => h
  have hD : va_D A [(mo, oM MF g0 t0 z0), (t0, aI cI 174 (tab tv))] := sp_D (List.nodup_append.mp (show (([(mo, oM MF g0 t0 z0), (t0, aI cI 174 (tab tv))] : va_W).map Prod.fst ++ ([] : va_W).map Prod.fst).Nodup by rw [← List.map_append]; exact hN)).1 hA0
  have hN : (List.map Prod.fst ([(mo, oM MF g0 t0 z0), (t0, aI cI 174 (tab tv))] ++ []) : List Nat).Nodup := hN
  have hS : va_S A s.heap s.heap [] := va_S.rf
  obtain ⟨H, hH0⟩ : ∃ H, H = s.heap := ⟨_, rfl⟩
  obtain ⟨locs, hlo⟩ : ∃ L : List Loc, L = [] := ⟨_, rfl⟩
  have hP : va_P D vwCl [(mo, oM MF g0 t0 z0), (t0, aI cI 174 (tab tv))] H := by rw [hH0]; exact hP
  have hS : va_S A s.heap H locs := by rw [hH0, hlo]; exact hS
  rw [show W p l e rmX3_order s m args below meth c s.heap [] 0 0 Q (F0 m 0 ls []) = W p l e rmX3_order s m args below meth c H locs 0 0 Q (F0 m 0 ls []) by rw [hH0, hlo]]
  clear hH0 hlo
  refine lv_aload_n hx hb dX3_order_0 rfl (lv_at hl 0 rfl) ?_
  refine lv_iconst (v := 0) hx hb dX3_order_1 (by decide) ?_
  refine va_put (D := D) (ci := 3) (v := .int 0) (ty := .int) (C := RX3) (T := TX3) (N := 9) hx hb hts hiX3 tyX3 tyX3_ok nmX3 hown hK.1 hP hD hS 0 rfl rfl 0 (by decide) (hts (.fieldLink RX3 26 "SledgeRaceModel" "thrown" "I") (by decide +kernel)) (fun _ h9 => h9) rfl (by decide +kernel) rfl rfl (Nat.le_of_ble_eq_true rfl) dX3_order_2 (fun H locs hP hD hS => ?_)
  have hP : va_P D vwCl [(mo, oM (upd MF 0 0) g0 t0 z0), (t0, aI cI 174 (tab tv))] H := hP
  have hD : va_D A [(mo, oM (upd MF 0 0) g0 t0 z0), (t0, aI cI 174 (tab tv))] := hD
  refine lv_aload_n hx hb dX3_order_5 rfl (lv_at hl 0 rfl) ?_
  refine lv_iload_n hx hb dX3_order_6 rfl (lv_at hl 1 rfl) ?_
  refine sp_rV (rest := []) (As := [.int x]) ⟨hx, hb, hml, hown, hts⟩ (mX3_isTeam l D cI cT mo g0 t0 z0 (upd MF 0 0) x) (cwV 1 hts gX3_order_X3_isTeam rfl rfl rfl (by decide +kernel) ⟨Nat.le_of_ble_eq_true rfl, Nat.le_of_ble_eq_true rfl⟩) hK (sp_pick hP [0] rfl) (ci := 3) rfl rfl rfl rfl hl.1 rfl (Nat.le_of_ble_eq_true rfl) dX3_order_7 ⟨Nat.le_of_ble_eq_true rfl, Nat.le_of_ble_eq_true rfl⟩ ?_
  refine sp_top (show bI (isIn x 0 ((upd MF 0 0) 2 - 1)) = bI (isIn x 0 (MF 2 - 1)) from rfl) ?_
  refine sp_if_ne (tgt := 19) hx hb dX3_order_10 (by decide) (fun c10 => ?_) (fun c10 => ?_)
  · skip
    obtain ⟨i, hi, rfl⟩ := isIn_nat (b := nt) (by omega) (show isIn x 0 (nI nt - 1) = true from by rw [← ht]; exact c10)
    refine lv_iload_n hx hb dX3_order_19 rfl (lv_at hl 2 rfl) ?_
    refine lv_iconst (v := 0) hx hb dX3_order_20 (by decide) ?_
    refine lv_bipush (v := 10) hx hb dX3_order_21 (by decide) ?_
    refine sp_rS (rest := []) (As := [.int ef, .int 0, .int 10]) ⟨hx, hb, hml, hown, hts⟩ (mX3_isIn l D cI cT ef 0 10) (va_cwS 3 hts gX3_order_X3_isIn rfl rfl rfl (by decide +kernel) ⟨Nat.le_of_ble_eq_true rfl, Nat.le_of_ble_eq_true rfl⟩) hK (show va_P D vwCl [] _ from fun k q h => by simp at h) rfl hl.1 rfl (Nat.le_of_ble_eq_true rfl) dX3_order_23 ⟨Nat.le_of_ble_eq_true rfl, Nat.le_of_ble_eq_true rfl⟩ ?_
    refine sp_if_eq (tgt := 39) hx hb dX3_order_26 (by decide) (fun c26 => ?_) (fun c26 => ?_)
    · skip
      refine lv_aload_n hx hb dX3_order_39 rfl (lv_at hl 0 rfl) ?_
      refine lv_iconst (v := 2) hx hb dX3_order_40 (by decide) ?_
      refine sp_vI (rest := []) (As := [.int 2]) (W1 := [(mo, oM (upd (upd MF 0 0) 0 2) g0 t0 z0), (t0, aI cI 174 (tab tv))]) ⟨hx, hb, hml, hown, hts⟩ (mX3_fail l D cI cT mo g0 t0 z0 (upd MF 0 0) 2) (cwV 1 hts gX3_order_X3_fail rfl rfl rfl (by decide +kernel) ⟨Nat.le_of_ble_eq_true rfl, Nat.le_of_ble_eq_true rfl⟩) hK hP hD hS [0] rfl (fun k q h => by simp at h) (sp_nsub hN [0] (by decide) rfl) rfl rfl rfl (ci := 3) rfl rfl rfl rfl hl.1 rfl (Nat.le_of_ble_eq_true rfl) dX3_order_41 ⟨Nat.le_of_ble_eq_true rfl, Nat.le_of_ble_eq_true rfl⟩ (fun H locs hP hD hS => ?_)
      have eq9 : (mOrder (nI i) ef w MF tv) = (0, upd MF 0 2, tv) := by unfold mOrder; rw [if_pos c10, if_neg (by simp [c26])]
      refine sp_top (show 0 = (mOrder (nI i) ef w MF tv).1 from by rw [eq9]) ?_
      subst hQ
      have hP9 : va_P D vwCl [(mo, oM (mOrder (nI i) ef w MF tv).2.1 g0 t0 z0), (t0, aI cI 174 (tab (mOrder (nI i) ef w MF tv).2.2))] H := by rw [eq9]; exact hP
      subst hAe
      exact W.iret hx hb hr (fun t ht hW => ⟨⟨_, (), rfl, rfl, by show va_P D vwCl _ t.heap; rw [ht]; exact hP9⟩, hS.F ht⟩) hS.2.2 dX3_order_44
    · skip
      refine lv_iload_n hx hb dX3_order_29 rfl (lv_at hl 3 rfl) ?_
      refine lv_iconst (v := 1) hx hb dX3_order_30 (by decide) ?_
      refine lv_bipush (v := 40) hx hb dX3_order_31 (by decide) ?_
      refine sp_rS (rest := []) (As := [.int w, .int 1, .int 40]) ⟨hx, hb, hml, hown, hts⟩ (mX3_isIn l D cI cT w 1 40) (va_cwS 3 hts gX3_order_X3_isIn rfl rfl rfl (by decide +kernel) ⟨Nat.le_of_ble_eq_true rfl, Nat.le_of_ble_eq_true rfl⟩) hK (show va_P D vwCl [] _ from fun k q h => by simp at h) rfl hl.1 rfl (Nat.le_of_ble_eq_true rfl) dX3_order_33 ⟨Nat.le_of_ble_eq_true rfl, Nat.le_of_ble_eq_true rfl⟩ ?_
      refine sp_if_ne (tgt := 45) hx hb dX3_order_36 (by decide) (fun c36 => ?_) (fun c36 => ?_)
      · skip
        refine lv_aload_n hx hb dX3_order_45 rfl (lv_at hl 0 rfl) ?_
        refine lv_iload_n hx hb dX3_order_46 rfl (lv_at hl 1 rfl) ?_
        refine lv_bipush (v := 7) hx hb dX3_order_47 (by decide) ?_
        refine sp_rV (rest := []) (As := [.int (nI i), .int (nI 7)]) ⟨hx, hb, hml, hown, hts⟩ (mX3_get l D cI cT mo g0 t0 z0 (upd MF 0 0) tv i 7 (((tv i).1) 7) (by omega) (by omega) (rfl)) (cwV 2 hts gX3_order_X3_get rfl rfl rfl (by decide +kernel) ⟨Nat.le_of_ble_eq_true rfl, Nat.le_of_ble_eq_true rfl⟩) hK (sp_pick hP [0, 1] rfl) (ci := 3) rfl rfl rfl rfl hl.1 rfl (Nat.le_of_ble_eq_true rfl) dX3_order_49 ⟨Nat.le_of_ble_eq_true rfl, Nat.le_of_ble_eq_true rfl⟩ ?_
        refine lv_istore (lv' := [(4, .int (((tv i).1) 7)), (0, .ref mo), (1, .int (nI i)), (2, .int ef), (3, .int w)]) hx hb dX3_order_52 hl (by decide) rfl (fun ls hl => ?_)
        refine lv_aload_n hx hb dX3_order_54 rfl (lv_at hl 1 rfl) ?_
        refine lv_iload_n hx hb dX3_order_55 rfl (lv_at hl 2 rfl) ?_
        refine lv_bipush (v := 7) hx hb dX3_order_56 (by decide) ?_
        refine lv_iload_n hx hb dX3_order_58 rfl (lv_at hl 3 rfl) ?_
        refine sp_vV (rest := []) (As := [.int (nI i), .int (nI 7), .int ef]) (W1 := [(mo, oM (upd MF 0 0) g0 t0 z0), (t0, aI cI 174 (tab (setT tv i (upd ((tv i).1) 7 ef, (tv i).2.1, (tv i).2.2.1, (tv i).2.2.2))))]) ⟨hx, hb, hml, hown, hts⟩ (mX3_set l D cI cT mo g0 t0 z0 (upd MF 0 0) tv i 7 ef (upd ((tv i).1) 7 ef, (tv i).2.1, (tv i).2.2.1, (tv i).2.2.2) (by omega) (by omega) (fun b _ => rs_F (by decide) b)) (cwV 3 hts gX3_order_X3_set rfl rfl rfl (by decide +kernel) ⟨Nat.le_of_ble_eq_true rfl, Nat.le_of_ble_eq_true rfl⟩) hK hP hD hS [0, 1] rfl (fun k q h => by simp at h) (sp_nsub hN [0, 1] (by decide) rfl) rfl rfl rfl (ci := 3) rfl rfl rfl rfl hl.1 rfl (Nat.le_of_ble_eq_true rfl) dX3_order_59 ⟨Nat.le_of_ble_eq_true rfl, Nat.le_of_ble_eq_true rfl⟩ (fun H locs hP hD hS => ?_)
        refine lv_aload_n hx hb dX3_order_62 rfl (lv_at hl 1 rfl) ?_
        refine lv_iload_n hx hb dX3_order_63 rfl (lv_at hl 2 rfl) ?_
        refine lv_bipush (v := 8) hx hb dX3_order_64 (by decide) ?_
        refine lv_iload_n hx hb dX3_order_66 rfl (lv_at hl 4 rfl) ?_
        refine sp_vV (rest := []) (As := [.int (nI i), .int (nI 8), .int w]) (W1 := [(mo, oM (upd MF 0 0) g0 t0 z0), (t0, aI cI 174 (tab (setT (setT tv i (upd ((tv i).1) 7 ef, (tv i).2.1, (tv i).2.2.1, (tv i).2.2.2)) i (upd (upd ((tv i).1) 7 ef) 8 w, (tv i).2.1, (tv i).2.2.1, (tv i).2.2.2))))]) ⟨hx, hb, hml, hown, hts⟩ (mX3_set l D cI cT mo g0 t0 z0 (upd MF 0 0) (setT tv i (upd ((tv i).1) 7 ef, (tv i).2.1, (tv i).2.2.1, (tv i).2.2.2)) i 8 w (upd (upd ((tv i).1) 7 ef) 8 w, (tv i).2.1, (tv i).2.2.1, (tv i).2.2.2) (by omega) (by omega) (fun b _ => by rw [setT_i _ _ _]; exact rs_F (by decide) b)) (cwV 3 hts gX3_order_X3_set rfl rfl rfl (by decide +kernel) ⟨Nat.le_of_ble_eq_true rfl, Nat.le_of_ble_eq_true rfl⟩) hK hP hD hS [0, 1] rfl (fun k q h => by simp at h) (sp_nsub hN [0, 1] (by decide) rfl) rfl rfl rfl (ci := 3) rfl rfl rfl rfl hl.1 rfl (Nat.le_of_ble_eq_true rfl) dX3_order_67 ⟨Nat.le_of_ble_eq_true rfl, Nat.le_of_ble_eq_true rfl⟩ (fun H locs hP hD hS => ?_)
        rw [setT_setT] at hP hD
        refine lv_iload hx hb dX3_order_70 (lv_at hl 0 rfl) ?_
        have eq9 : (mOrder (nI i) ef w MF tv) = ((tv i).1 7, upd MF 0 0, setT tv i (upd (upd (tv i).1 7 ef) 8 w, (tv i).2)) := by unfold mOrder; rw [if_pos c10, if_pos (by rw [c26, c36]; rfl), nI_clamp (by omega)]
        refine sp_top (show ((tv i).1) 7 = (mOrder (nI i) ef w MF tv).1 from by rw [eq9]) ?_
        subst hQ
        have hP9 : va_P D vwCl [(mo, oM (mOrder (nI i) ef w MF tv).2.1 g0 t0 z0), (t0, aI cI 174 (tab (mOrder (nI i) ef w MF tv).2.2))] H := by rw [eq9]; exact hP
        subst hAe
        exact W.iret hx hb hr (fun t ht hW => ⟨⟨_, (), rfl, rfl, by show va_P D vwCl _ t.heap; rw [ht]; exact hP9⟩, hS.F ht⟩) hS.2.2 dX3_order_72
      · skip
        refine lv_aload_n hx hb dX3_order_39 rfl (lv_at hl 0 rfl) ?_
        refine lv_iconst (v := 2) hx hb dX3_order_40 (by decide) ?_
        refine sp_vI (rest := []) (As := [.int 2]) (W1 := [(mo, oM (upd (upd MF 0 0) 0 2) g0 t0 z0), (t0, aI cI 174 (tab tv))]) ⟨hx, hb, hml, hown, hts⟩ (mX3_fail l D cI cT mo g0 t0 z0 (upd MF 0 0) 2) (cwV 1 hts gX3_order_X3_fail rfl rfl rfl (by decide +kernel) ⟨Nat.le_of_ble_eq_true rfl, Nat.le_of_ble_eq_true rfl⟩) hK hP hD hS [0] rfl (fun k q h => by simp at h) (sp_nsub hN [0] (by decide) rfl) rfl rfl rfl (ci := 3) rfl rfl rfl rfl hl.1 rfl (Nat.le_of_ble_eq_true rfl) dX3_order_41 ⟨Nat.le_of_ble_eq_true rfl, Nat.le_of_ble_eq_true rfl⟩ (fun H locs hP hD hS => ?_)
        have eq9 : (mOrder (nI i) ef w MF tv) = (0, upd MF 0 2, tv) := by unfold mOrder; rw [if_pos c10, if_neg (by simp [c26, c36])]
        refine sp_top (show 0 = (mOrder (nI i) ef w MF tv).1 from by rw [eq9]) ?_
        subst hQ
        have hP9 : va_P D vwCl [(mo, oM (mOrder (nI i) ef w MF tv).2.1 g0 t0 z0), (t0, aI cI 174 (tab (mOrder (nI i) ef w MF tv).2.2))] H := by rw [eq9]; exact hP
        subst hAe
        exact W.iret hx hb hr (fun t ht hW => ⟨⟨_, (), rfl, rfl, by show va_P D vwCl _ t.heap; rw [ht]; exact hP9⟩, hS.F ht⟩) hS.2.2 dX3_order_44
  · skip
    refine lv_aload_n hx hb dX3_order_13 rfl (lv_at hl 0 rfl) ?_
    refine lv_iconst (v := 1) hx hb dX3_order_14 (by decide) ?_
    refine sp_vI (rest := []) (As := [.int 1]) (W1 := [(mo, oM (upd (upd MF 0 0) 0 1) g0 t0 z0), (t0, aI cI 174 (tab tv))]) ⟨hx, hb, hml, hown, hts⟩ (mX3_fail l D cI cT mo g0 t0 z0 (upd MF 0 0) 1) (cwV 1 hts gX3_order_X3_fail rfl rfl rfl (by decide +kernel) ⟨Nat.le_of_ble_eq_true rfl, Nat.le_of_ble_eq_true rfl⟩) hK hP hD hS [0] rfl (fun k q h => by simp at h) (sp_nsub hN [0] (by decide) rfl) rfl rfl rfl (ci := 3) rfl rfl rfl rfl hl.1 rfl (Nat.le_of_ble_eq_true rfl) dX3_order_15 ⟨Nat.le_of_ble_eq_true rfl, Nat.le_of_ble_eq_true rfl⟩ (fun H locs hP hD hS => ?_)
    have eq9 : (mOrder x ef w MF tv) = (0, upd MF 0 1, tv) := by unfold mOrder; rw [if_neg (by rw [c10]; decide)]
    refine sp_top (show 0 = (mOrder x ef w MF tv).1 from by rw [eq9]) ?_
    subst hQ
    have hP9 : va_P D vwCl [(mo, oM (mOrder x ef w MF tv).2.1 g0 t0 z0), (t0, aI cI 174 (tab (mOrder x ef w MF tv).2.2))] H := by rw [eq9]; exact hP
    subst hAe
    exact W.iret hx hb hr (fun t ht hW => ⟨⟨_, (), rfl, rfl, by show va_P D vwCl _ t.heap; rw [ht]; exact hP9⟩, hS.F ht⟩) hS.2.2 dX3_order_18

abbrev rmX3_run : Room := { frames := 9, cells := 0, slots := 0, locals := 205 }
set_option maxHeartbeats 4000000 in
set_option maxRecDepth 100000 in
/-- run -/
theorem mX3_run (l : Launch) (D : va_G) (cI cT : ClassId) (mo g0 t0 z0 : Nat) (MF : Nat → Int32) (g : Nat → Int32) (tv : Nat → TV) (x : Int32) (ns : Nat) (hns0 : 0 < ns) (hns : ns ≤ 12) (h5 : MF 5 = nI ns) (nt : Nat) (hnt : nt ≤ 6) (ht : MF 2 = nI nt) (hok : ∀ t, t < nt → mOK (tv t)) : MetI l D cI cT yX3_run wsX3_run rmX3_run [.ref mo, .int x] [(mo, oM MF g0 t0 z0), (g0, aI cI 39 g), (t0, aI cI 174 (tab tv))] [] [(mo, oM (mRunC x MF g ns nt tv).2.1 g0 t0 z0), (g0, aI cI 39 g), (t0, aI cI 174 (tab (mRunC x MF g ns nt tv).2.2))] ((mRunC x MF g ns nt tv).1) := by
  refine Met.ofW (cc := cX3_run) (maxL := 3) (ret := (some .int)) (by decide) rfl ?_
  intro p e s m args below meth c s₁ B hml hv
  obtain ⟨hargs, hP, hR0, hK, hN⟩ := hv
  have hx := B.exec
  have hb := B.bytes
  have hr := B.returns
  have hts := atoms_spec (ws := wsX3_run) B.pre
  have hown : s.vm.findClass RX3 = some m.cls := findClass_of_methodNamed B.named
  have hlocks := B.notSynchronized
  have hiX3 : ∀ w ∈ u_ws RX3 TX3 9, w ∈ wsX3_run := by decide +kernel
  have he : entryFrame m args 3 = F0 m 0 ((lg_sl [.ref mo, .int x] ++ List.replicate (3 - (lg_sl [.ref mo, .int x]).length) Slot.unset).toArray) [] := by rw [hargs]; exact lg_entry_eq m _ _
  rw [he]
  change W p l e rmX3_run s m args below meth c s.heap [] 0 0 (MQ below (va_Qi (S := Unit) (fun z _ => z = (mRunC x MF g ns nt tv).1) (fun _ t => va_P D vwCl [(mo, oM (mRunC x MF g ns nt tv).2.1 g0 t0 z0), (g0, aI cI 39 g), (t0, aI cI 174 (tab (mRunC x MF g ns nt tv).2.2))] t.heap) (fr (List.map Prod.fst [(mo, oM MF g0 t0 z0), (g0, aI cI 39 g), (t0, aI cI 174 (tab tv))]))) args s 0 0 (fr (List.map Prod.fst [(mo, oM MF g0 t0 z0), (g0, aI cI 39 g), (t0, aI cI 174 (tab tv))]))) _
  obtain ⟨Q, hQ⟩ : ∃ Q, Q = MQ below (va_Qi (S := Unit) (fun z _ => z = (mRunC x MF g ns nt tv).1) (fun _ t => va_P D vwCl [(mo, oM (mRunC x MF g ns nt tv).2.1 g0 t0 z0), (g0, aI cI 39 g), (t0, aI cI 174 (tab (mRunC x MF g ns nt tv).2.2))] t.heap) (fr (List.map Prod.fst [(mo, oM MF g0 t0 z0), (g0, aI cI 39 g), (t0, aI cI 174 (tab tv))]))) args s 0 0 (fr (List.map Prod.fst [(mo, oM MF g0 t0 z0), (g0, aI cI 39 g), (t0, aI cI 174 (tab tv))])) := ⟨_, rfl⟩
  rw [← hQ]
  have hl := lv_entry [.ref mo, .int x] (n := 3) (Nat.le_of_ble_eq_true rfl)
  generalize (lg_sl [.ref mo, .int x] ++ List.replicate (3 - (lg_sl [.ref mo, .int x]).length) Slot.unset).toArray = ls at hl ⊢
  have hl : lv_has ls 3 [(0, .ref mo), (1, .int x)] := hl
  obtain ⟨A, hAe⟩ : ∃ A, A = (fr (List.map Prod.fst [(mo, oM MF g0 t0 z0), (g0, aI cI 39 g), (t0, aI cI 174 (tab tv))])) := ⟨_, rfl⟩
  have hA0 : ∀ q ∈ List.map Prod.fst [(mo, oM MF g0 t0 z0), (g0, aI cI 39 g), (t0, aI cI 174 (tab tv))], A q := by rw [hAe]; exact fun q h => h
  have hD : va_D A [(mo, oM MF g0 t0 z0), (g0, aI cI 39 g), (t0, aI cI 174 (tab tv))] := sp_D (List.nodup_append.mp (show (([(mo, oM MF g0 t0 z0), (g0, aI cI 39 g), (t0, aI cI 174 (tab tv))] : va_W).map Prod.fst ++ ([] : va_W).map Prod.fst).Nodup by rw [← List.map_append]; exact hN)).1 hA0
  have hN : (List.map Prod.fst ([(mo, oM MF g0 t0 z0), (g0, aI cI 39 g), (t0, aI cI 174 (tab tv))] ++ []) : List Nat).Nodup := hN
  have hS : va_S A s.heap s.heap [] := va_S.rf
  obtain ⟨H, hH0⟩ : ∃ H, H = s.heap := ⟨_, rfl⟩
  obtain ⟨locs, hlo⟩ : ∃ L : List Loc, L = [] := ⟨_, rfl⟩
  have hP : va_P D vwCl [(mo, oM MF g0 t0 z0), (g0, aI cI 39 g), (t0, aI cI 174 (tab tv))] H := by rw [hH0]; exact hP
  have hS : va_S A s.heap H locs := by rw [hH0, hlo]; exact hS
  rw [show W p l e rmX3_run s m args below meth c s.heap [] 0 0 Q (F0 m 0 ls []) = W p l e rmX3_run s m args below meth c H locs 0 0 Q (F0 m 0 ls []) by rw [hH0, hlo]]
  clear hH0 hlo
  refine lv_aload_n hx hb dX3_run_0 rfl (lv_at hl 0 rfl) ?_
  refine lv_iconst (v := 0) hx hb dX3_run_1 (by decide) ?_
  refine va_put (D := D) (ci := 3) (v := .int 0) (ty := .int) (C := RX3) (T := TX3) (N := 9) hx hb hts hiX3 tyX3 tyX3_ok nmX3 hown hK.1 hP hD hS 0 rfl rfl 0 (by decide) (hts (.fieldLink RX3 26 "SledgeRaceModel" "thrown" "I") (by decide +kernel)) (fun _ h9 => h9) rfl (by decide +kernel) rfl rfl (Nat.le_of_ble_eq_true rfl) dX3_run_2 (fun H locs hP hD hS => ?_)
  have hP : va_P D vwCl [(mo, oM (upd MF 0 0) g0 t0 z0), (g0, aI cI 39 g), (t0, aI cI 174 (tab tv))] H := hP
  have hD : va_D A [(mo, oM (upd MF 0 0) g0 t0 z0), (g0, aI cI 39 g), (t0, aI cI 174 (tab tv))] := hD
  refine lv_iload_n hx hb dX3_run_5 rfl (lv_at hl 1 rfl) ?_
  refine lv_iconst (v := 1) hx hb dX3_run_6 (by decide) ?_
  refine lv_sipush (v := 500) hx hb dX3_run_7 (by decide) ?_
  refine sp_rS (rest := []) (As := [.int x, .int 1, .int 500]) ⟨hx, hb, hml, hown, hts⟩ (mX3_isIn l D cI cT x 1 500) (va_cwS 3 hts gX3_run_X3_isIn rfl rfl rfl (by decide +kernel) ⟨Nat.le_of_ble_eq_true rfl, Nat.le_of_ble_eq_true rfl⟩) hK (show va_P D vwCl [] _ from fun k q h => by simp at h) rfl hl.1 rfl (Nat.le_of_ble_eq_true rfl) dX3_run_10 ⟨Nat.le_of_ble_eq_true rfl, Nat.le_of_ble_eq_true rfl⟩ ?_
  refine sp_if_ne (tgt := 22) hx hb dX3_run_13 (by decide) (fun c13 => ?_) (fun c13 => ?_)
  · skip
    refine lv_aload_n hx hb dX3_run_22 rfl (lv_at hl 0 rfl) ?_
    refine va_get (D := D) (ci := 3) (v := .int (nI nt)) (C := RX3) (T := TX3) (N := 9) hx hb hts hiX3 hown hK.1 hP 0 rfl rfl 2 (by decide) (hts (.fieldLink RX3 29 "SledgeRaceModel" "teams" "I") (by decide +kernel)) (fun _ h9 => h9) (congrArg (fun z => some (Value.int z)) ht) dX3_run_23 ?_
    refine lv_if_ne (tgt := 35) hx hb dX3_run_26 (by decide) (fun c26 => ?_) (fun c26 => ?_)
    · skip
      obtain ⟨k, hk1, hk2, rfl⟩ := isIn_rng (a := 1) (b := 500) (by decide) (by decide) c13
      refine lv_iconst (v := nI 0) hx hb dX3_run_35 (by decide) ?_
      refine lv_istore_n (lv' := [(2, .int (nI 0)), (0, .ref mo), (1, .int (nI k))]) hx hb dX3_run_36 rfl hl (by decide) rfl (fun ls hl => ?_)
      have loop37 : ∀ (fu : Nat) (j : Nat), (k - j) < fu → (j ≤ k) → (mKeep nt ns (mIt g ns nt (upd MF 0 0, tv) j)) → ∀ (H : Heap) (locs : List Loc), va_P D vwCl [(mo, oM ((mIt g ns nt (upd MF 0 0, tv) j).1) g0 t0 z0), (g0, aI cI 39 g), (t0, aI cI 174 (tab ((mIt g ns nt (upd MF 0 0, tv) j).2)))] H → va_D A [(mo, oM ((mIt g ns nt (upd MF 0 0, tv) j).1) g0 t0 z0), (g0, aI cI 39 g), (t0, aI cI 174 (tab ((mIt g ns nt (upd MF 0 0, tv) j).2)))] → va_S A s.heap H locs → ∀ (ls : Array Slot), lv_has ls 3 [(2, .int (nI j)), (0, .ref mo), (1, .int (nI k))] → W p l e rmX3_run s m args below meth c H locs 0 0 Q (F0 m 37 ls []) := by
        intro fu
        induction fu with
        | zero => intro j hfu; exact absurd hfu (Nat.not_lt_zero _)
        | succ fu ih37 =>
          intro j hfu37 hjk hX
          intro H locs hP hD hS ls hl
          refine lv_iload_n hx hb dX3_run_37 rfl (lv_at hl 0 rfl) ?_
          refine lv_iload_n hx hb dX3_run_38 rfl (lv_at hl 2 rfl) ?_
          refine sp_ge (by omega) (by omega) (tgt := 52) hx hb dX3_run_39 (by decide) (fun c39 => ?_) (fun c39 => ?_)
          · skip
            have en : k = j := (by omega)
            subst en
            refine lv_aload_n hx hb dX3_run_52 rfl (lv_at hl 1 rfl) ?_
            refine sp_rV (rest := []) (As := []) ⟨hx, hb, hml, hown, hts⟩ (mX3_ended l D cI cT mo g0 t0 z0 ((mIt g ns nt (upd MF 0 0, tv) k).1) ((mIt g ns nt (upd MF 0 0, tv) k).2) nt hnt hX.1) (cwV 0 hts gX3_run_X3_ended rfl rfl rfl (by decide +kernel) ⟨Nat.le_of_ble_eq_true rfl, Nat.le_of_ble_eq_true rfl⟩) hK (sp_pick hP [0, 2] rfl) (ci := 3) rfl rfl rfl rfl hl.1 rfl (Nat.le_of_ble_eq_true rfl) dX3_run_53 ⟨Nat.le_of_ble_eq_true rfl, Nat.le_of_ble_eq_true rfl⟩ ?_
            have eq9 : (mRunC (nI k) MF g ns nt tv) = (nI (mEnded (mIt g ns nt (upd MF 0 0, tv) k).2 nt), (mIt g ns nt (upd MF 0 0, tv) k).1, (mIt g ns nt (upd MF 0 0, tv) k).2) := by unfold mRunC; rw [if_pos c13, if_neg (by rw [ht]; exact c26), nI_clamp (by omega)]
            refine sp_top (show nI (mEnded ((mIt g ns nt (upd MF 0 0, tv) k).2) nt) = (mRunC (nI k) MF g ns nt tv).1 from by rw [eq9]) ?_
            subst hQ
            have hP9 : va_P D vwCl [(mo, oM (mRunC (nI k) MF g ns nt tv).2.1 g0 t0 z0), (g0, aI cI 39 g), (t0, aI cI 174 (tab (mRunC (nI k) MF g ns nt tv).2.2))] H := by rw [eq9]; exact hP
            subst hAe
            exact W.iret hx hb hr (fun t ht hW => ⟨⟨_, (), rfl, rfl, by show va_P D vwCl _ t.heap; rw [ht]; exact hP9⟩, hS.F ht⟩) hS.2.2 dX3_run_56
          · skip
            refine lv_aload_n hx hb dX3_run_42 rfl (lv_at hl 1 rfl) ?_
            refine sp_vV (rest := []) (As := []) (W1 := [(mo, oM ((mStep g ns nt ((mIt g ns nt (upd MF 0 0, tv) j).1, (mIt g ns nt (upd MF 0 0, tv) j).2)).1) g0 t0 z0), (g0, aI cI 39 g), (t0, aI cI 174 (tab ((mStep g ns nt ((mIt g ns nt (upd MF 0 0, tv) j).1, (mIt g ns nt (upd MF 0 0, tv) j).2)).2)))]) ⟨hx, hb, hml, hown, hts⟩ (mX3_tickOn l D cI cT mo g0 t0 z0 ((mIt g ns nt (upd MF 0 0, tv) j).1) g ((mIt g ns nt (upd MF 0 0, tv) j).2) ns hns0 hns hX.2.1 nt hnt hX.1 hX.2.2) (cwV 0 hts gX3_run_X3_tickOn rfl rfl rfl (by decide +kernel) ⟨Nat.le_of_ble_eq_true rfl, Nat.le_of_ble_eq_true rfl⟩) hK hP hD hS [0, 1, 2] rfl (fun k q h => by simp at h) (sp_nsub hN [0, 1, 2] (by decide) rfl) rfl rfl rfl (ci := 3) rfl rfl rfl rfl hl.1 rfl (Nat.le_of_ble_eq_true rfl) dX3_run_43 ⟨Nat.le_of_ble_eq_true rfl, Nat.le_of_ble_eq_true rfl⟩ (fun H locs hP hD hS => ?_)
            refine lv_iinc (v := nI (j + 1)) (lv' := [(2, .int (nI (j + 1))), (0, .ref mo), (1, .int (nI k))]) hx hb dX3_run_46 hl (k := 0) rfl ((nI_1 j)) (by decide) rfl (fun ls hl => ?_)
            refine lv_goto (tgt := 37) hx hb dX3_run_49 (by decide) ?_
            exact ih37 (j + 1) (by omega) (by omega) (hX.step) _ _ hP hD hS ls (lv_sub hl [0, 1, 2] rfl)
      exact loop37 _ 0 (Nat.lt_succ_self _) (Nat.zero_le _) (⟨ht, h5, hok⟩) _ _ hP hD hS ls (lv_sub hl [0, 1, 2] rfl)
    · skip
      refine lv_aload_n hx hb dX3_run_29 rfl (lv_at hl 0 rfl) ?_
      refine lv_iconst (v := 2) hx hb dX3_run_30 (by decide) ?_
      refine sp_vI (rest := []) (As := [.int 2]) (W1 := [(mo, oM (upd (upd MF 0 0) 0 2) g0 t0 z0), (g0, aI cI 39 g), (t0, aI cI 174 (tab tv))]) ⟨hx, hb, hml, hown, hts⟩ (mX3_fail l D cI cT mo g0 t0 z0 (upd MF 0 0) 2) (cwV 1 hts gX3_run_X3_fail rfl rfl rfl (by decide +kernel) ⟨Nat.le_of_ble_eq_true rfl, Nat.le_of_ble_eq_true rfl⟩) hK hP hD hS [0] rfl (fun k q h => by simp at h) (sp_nsub hN [0] (by decide) rfl) rfl rfl rfl (ci := 3) rfl rfl rfl rfl hl.1 rfl (Nat.le_of_ble_eq_true rfl) dX3_run_31 ⟨Nat.le_of_ble_eq_true rfl, Nat.le_of_ble_eq_true rfl⟩ (fun H locs hP hD hS => ?_)
      have eq9 : (mRunC x MF g ns nt tv) = (0, upd MF 0 2, tv) := by unfold mRunC; rw [if_pos c13, if_pos (by rw [ht]; exact c26)]
      refine sp_top (show 0 = (mRunC x MF g ns nt tv).1 from by rw [eq9]) ?_
      subst hQ
      have hP9 : va_P D vwCl [(mo, oM (mRunC x MF g ns nt tv).2.1 g0 t0 z0), (g0, aI cI 39 g), (t0, aI cI 174 (tab (mRunC x MF g ns nt tv).2.2))] H := by rw [eq9]; exact hP
      subst hAe
      exact W.iret hx hb hr (fun t ht hW => ⟨⟨_, (), rfl, rfl, by show va_P D vwCl _ t.heap; rw [ht]; exact hP9⟩, hS.F ht⟩) hS.2.2 dX3_run_34
  · skip
    refine lv_aload_n hx hb dX3_run_16 rfl (lv_at hl 0 rfl) ?_
    refine lv_iconst (v := 1) hx hb dX3_run_17 (by decide) ?_
    refine sp_vI (rest := []) (As := [.int 1]) (W1 := [(mo, oM (upd (upd MF 0 0) 0 1) g0 t0 z0), (g0, aI cI 39 g), (t0, aI cI 174 (tab tv))]) ⟨hx, hb, hml, hown, hts⟩ (mX3_fail l D cI cT mo g0 t0 z0 (upd MF 0 0) 1) (cwV 1 hts gX3_run_X3_fail rfl rfl rfl (by decide +kernel) ⟨Nat.le_of_ble_eq_true rfl, Nat.le_of_ble_eq_true rfl⟩) hK hP hD hS [0] rfl (fun k q h => by simp at h) (sp_nsub hN [0] (by decide) rfl) rfl rfl rfl (ci := 3) rfl rfl rfl rfl hl.1 rfl (Nat.le_of_ble_eq_true rfl) dX3_run_18 ⟨Nat.le_of_ble_eq_true rfl, Nat.le_of_ble_eq_true rfl⟩ (fun H locs hP hD hS => ?_)
    have eq9 : (mRunC x MF g ns nt tv) = (0, upd MF 0 1, tv) := by unfold mRunC; rw [if_neg (by rw [c13]; decide)]
    refine sp_top (show 0 = (mRunC x MF g ns nt tv).1 from by rw [eq9]) ?_
    subst hQ
    have hP9 : va_P D vwCl [(mo, oM (mRunC x MF g ns nt tv).2.1 g0 t0 z0), (g0, aI cI 39 g), (t0, aI cI 174 (tab (mRunC x MF g ns nt tv).2.2))] H := by rw [eq9]; exact hP
    subst hAe
    exact W.iret hx hb hr (fun t ht hW => ⟨⟨_, (), rfl, rfl, by show va_P D vwCl _ t.heap; rw [ht]; exact hP9⟩, hS.F ht⟩) hS.2.2 dX3_run_21

abbrev rmX3_restart : Room := { frames := 2, cells := 0, slots := 0, locals := 45 }
set_option maxHeartbeats 4000000 in
set_option maxRecDepth 100000 in
/-- restart -/
theorem mX3_restart (l : Launch) (D : va_G) (cI cT : ClassId) (mo g0 t0 z0 : Nat) (MF : Nat → Int32) (tv : Nat → TV) (nt : Nat) (hnt : nt ≤ 6) (ht : MF 2 = nI nt) (hok : ∀ t, t < nt → mOK (tv t)) : MetI l D cI cT yX3_restart wsX3_restart rmX3_restart [.ref mo] [(mo, oM MF g0 t0 z0), (t0, aI cI 174 (tab tv))] [] [(mo, oM (mRestartF MF) g0 t0 z0), (t0, aI cI 174 (tab (mTv mBeginT tv nt)))] (MF 2) := by
  refine Met.ofW (cc := cX3_restart) (maxL := 2) (ret := (some .int)) (by decide) rfl ?_
  intro p e s m args below meth c s₁ B hml hv
  obtain ⟨hargs, hP, hR0, hK, hN⟩ := hv
  have hx := B.exec
  have hb := B.bytes
  have hr := B.returns
  have hts := atoms_spec (ws := wsX3_restart) B.pre
  have hown : s.vm.findClass RX3 = some m.cls := findClass_of_methodNamed B.named
  have hlocks := B.notSynchronized
  have hiX3 : ∀ w ∈ u_ws RX3 TX3 9, w ∈ wsX3_restart := by decide +kernel
  have he : entryFrame m args 2 = F0 m 0 ((lg_sl [.ref mo] ++ List.replicate (2 - (lg_sl [.ref mo]).length) Slot.unset).toArray) [] := by rw [hargs]; exact lg_entry_eq m _ _
  rw [he]
  change W p l e rmX3_restart s m args below meth c s.heap [] 0 0 (MQ below (va_Qi (S := Unit) (fun z _ => z = MF 2) (fun _ t => va_P D vwCl [(mo, oM (mRestartF MF) g0 t0 z0), (t0, aI cI 174 (tab (mTv mBeginT tv nt)))] t.heap) (fr (List.map Prod.fst [(mo, oM MF g0 t0 z0), (t0, aI cI 174 (tab tv))]))) args s 0 0 (fr (List.map Prod.fst [(mo, oM MF g0 t0 z0), (t0, aI cI 174 (tab tv))]))) _
  obtain ⟨Q, hQ⟩ : ∃ Q, Q = MQ below (va_Qi (S := Unit) (fun z _ => z = MF 2) (fun _ t => va_P D vwCl [(mo, oM (mRestartF MF) g0 t0 z0), (t0, aI cI 174 (tab (mTv mBeginT tv nt)))] t.heap) (fr (List.map Prod.fst [(mo, oM MF g0 t0 z0), (t0, aI cI 174 (tab tv))]))) args s 0 0 (fr (List.map Prod.fst [(mo, oM MF g0 t0 z0), (t0, aI cI 174 (tab tv))])) := ⟨_, rfl⟩
  rw [← hQ]
  have hl := lv_entry [.ref mo] (n := 2) (Nat.le_of_ble_eq_true rfl)
  generalize (lg_sl [.ref mo] ++ List.replicate (2 - (lg_sl [.ref mo]).length) Slot.unset).toArray = ls at hl ⊢
  have hl : lv_has ls 2 [(0, .ref mo)] := hl
  obtain ⟨A, hAe⟩ : ∃ A, A = (fr (List.map Prod.fst [(mo, oM MF g0 t0 z0), (t0, aI cI 174 (tab tv))])) := ⟨_, rfl⟩
  have hA0 : ∀ q ∈ List.map Prod.fst [(mo, oM MF g0 t0 z0), (t0, aI cI 174 (tab tv))], A q := by rw [hAe]; exact fun q h => h
  have hD : va_D A [(mo, oM MF g0 t0 z0), (t0, aI cI 174 (tab tv))] := sp_D (List.nodup_append.mp (show (([(mo, oM MF g0 t0 z0), (t0, aI cI 174 (tab tv))] : va_W).map Prod.fst ++ ([] : va_W).map Prod.fst).Nodup by rw [← List.map_append]; exact hN)).1 hA0
  have hN : (List.map Prod.fst ([(mo, oM MF g0 t0 z0), (t0, aI cI 174 (tab tv))] ++ []) : List Nat).Nodup := hN
  have hS : va_S A s.heap s.heap [] := va_S.rf
  obtain ⟨H, hH0⟩ : ∃ H, H = s.heap := ⟨_, rfl⟩
  obtain ⟨locs, hlo⟩ : ∃ L : List Loc, L = [] := ⟨_, rfl⟩
  have hP : va_P D vwCl [(mo, oM MF g0 t0 z0), (t0, aI cI 174 (tab tv))] H := by rw [hH0]; exact hP
  have hS : va_S A s.heap H locs := by rw [hH0, hlo]; exact hS
  rw [show W p l e rmX3_restart s m args below meth c s.heap [] 0 0 Q (F0 m 0 ls []) = W p l e rmX3_restart s m args below meth c H locs 0 0 Q (F0 m 0 ls []) by rw [hH0, hlo]]
  clear hH0 hlo
  refine lv_aload_n hx hb dX3_restart_0 rfl (lv_at hl 0 rfl) ?_
  refine lv_iconst (v := 0) hx hb dX3_restart_1 (by decide) ?_
  refine va_put (D := D) (ci := 3) (v := .int 0) (ty := .int) (C := RX3) (T := TX3) (N := 9) hx hb hts hiX3 tyX3 tyX3_ok nmX3 hown hK.1 hP hD hS 0 rfl rfl 0 (by decide) (hts (.fieldLink RX3 26 "SledgeRaceModel" "thrown" "I") (by decide +kernel)) (fun _ h9 => h9) rfl (by decide +kernel) rfl rfl (Nat.le_of_ble_eq_true rfl) dX3_restart_2 (fun H locs hP hD hS => ?_)
  have hP : va_P D vwCl [(mo, oM (upd MF 0 0) g0 t0 z0), (t0, aI cI 174 (tab tv))] H := hP
  have hD : va_D A [(mo, oM (upd MF 0 0) g0 t0 z0), (t0, aI cI 174 (tab tv))] := hD
  refine lv_aload_n hx hb dX3_restart_5 rfl (lv_at hl 0 rfl) ?_
  refine lv_iconst (v := 0) hx hb dX3_restart_6 (by decide) ?_
  refine va_put (D := D) (ci := 3) (v := .int 0) (ty := .int) (C := RX3) (T := TX3) (N := 9) hx hb hts hiX3 tyX3 tyX3_ok nmX3 hown hK.1 hP hD hS 0 rfl rfl 1 (by decide) (hts (.fieldLink RX3 40 "SledgeRaceModel" "tick" "I") (by decide +kernel)) (fun _ h9 => h9) rfl (by decide +kernel) rfl rfl (Nat.le_of_ble_eq_true rfl) dX3_restart_7 (fun H locs hP hD hS => ?_)
  have hP : va_P D vwCl [(mo, oM (upd (upd MF 0 0) 1 0) g0 t0 z0), (t0, aI cI 174 (tab tv))] H := hP
  have hD : va_D A [(mo, oM (upd (upd MF 0 0) 1 0) g0 t0 z0), (t0, aI cI 174 (tab tv))] := hD
  refine lv_aload_n hx hb dX3_restart_10 rfl (lv_at hl 0 rfl) ?_
  refine lv_iconst (v := 0) hx hb dX3_restart_11 (by decide) ?_
  refine va_put (D := D) (ci := 3) (v := .int 0) (ty := .int) (C := RX3) (T := TX3) (N := 9) hx hb hts hiX3 tyX3 tyX3_ok nmX3 hown hK.1 hP hD hS 0 rfl rfl 4 (by decide) (hts (.fieldLink RX3 95 "SledgeRaceModel" "broke" "I") (by decide +kernel)) (fun _ h9 => h9) rfl (by decide +kernel) rfl rfl (Nat.le_of_ble_eq_true rfl) dX3_restart_12 (fun H locs hP hD hS => ?_)
  have hP : va_P D vwCl [(mo, oM (upd (upd (upd MF 0 0) 1 0) 4 0) g0 t0 z0), (t0, aI cI 174 (tab tv))] H := hP
  have hD : va_D A [(mo, oM (upd (upd (upd MF 0 0) 1 0) 4 0) g0 t0 z0), (t0, aI cI 174 (tab tv))] := hD
  refine lv_iconst (v := nI 0) hx hb dX3_restart_15 (by decide) ?_
  refine lv_istore_n (lv' := [(1, .int (nI 0)), (0, .ref mo)]) hx hb dX3_restart_16 rfl hl (by decide) rfl (fun ls hl => ?_)
  have loop17 : ∀ (fu : Nat) (t : Nat), (nt - t) < fu → (t ≤ nt) → ∀ (H : Heap) (locs : List Loc), va_P D vwCl [(mo, oM (upd (upd (upd MF 0 0) 1 0) 4 0) g0 t0 z0), (t0, aI cI 174 (tab (mTv mBeginT tv t)))] H → va_D A [(mo, oM (upd (upd (upd MF 0 0) 1 0) 4 0) g0 t0 z0), (t0, aI cI 174 (tab (mTv mBeginT tv t)))] → va_S A s.heap H locs → ∀ (ls : Array Slot), lv_has ls 2 [(1, .int (nI t)), (0, .ref mo)] → W p l e rmX3_restart s m args below meth c H locs 0 0 Q (F0 m 17 ls []) := by
    intro fu
    induction fu with
    | zero => intro t hfu; exact absurd hfu (Nat.not_lt_zero _)
    | succ fu ih17 =>
      intro t hfu17 hti
      intro H locs hP hD hS ls hl
      refine lv_iload_n hx hb dX3_restart_17 rfl (lv_at hl 0 rfl) ?_
      refine lv_aload_n hx hb dX3_restart_18 rfl (lv_at hl 1 rfl) ?_
      refine va_get (D := D) (ci := 3) (v := .int (nI nt)) (C := RX3) (T := TX3) (N := 9) hx hb hts hiX3 hown hK.1 hP 0 rfl rfl 2 (by decide) (hts (.fieldLink RX3 29 "SledgeRaceModel" "teams" "I") (by decide +kernel)) (fun _ h9 => h9) (congrArg (fun z => some (Value.int z)) ht) dX3_restart_19 ?_
      refine sp_ge (by omega) (by omega) (tgt := 36) hx hb dX3_restart_22 (by decide) (fun c22 => ?_) (fun c22 => ?_)
      · skip
        refine lv_aload_n hx hb dX3_restart_36 rfl (lv_at hl 1 rfl) ?_
        refine va_get (D := D) (ci := 3) (v := .int (nI nt)) (C := RX3) (T := TX3) (N := 9) hx hb hts hiX3 hown hK.1 hP 0 rfl rfl 2 (by decide) (hts (.fieldLink RX3 29 "SledgeRaceModel" "teams" "I") (by decide +kernel)) (fun _ h9 => h9) (congrArg (fun z => some (Value.int z)) ht) dX3_restart_37 ?_
        refine sp_top (show nI nt = MF 2 from ht.symm) ?_
        subst hQ
        have hP9 : va_P D vwCl [(mo, oM (mRestartF MF) g0 t0 z0), (t0, aI cI 174 (tab (mTv mBeginT tv nt)))] H := by have en : nt = t := (by omega); subst en; exact hP
        subst hAe
        exact W.iret hx hb hr (fun t ht hW => ⟨⟨_, (), rfl, rfl, by show va_P D vwCl _ t.heap; rw [ht]; exact hP9⟩, hS.F ht⟩) hS.2.2 dX3_restart_40
      · skip
        refine lv_aload_n hx hb dX3_restart_25 rfl (lv_at hl 1 rfl) ?_
        refine lv_iload_n hx hb dX3_restart_26 rfl (lv_at hl 0 rfl) ?_
        refine sp_vV (rest := []) (As := [.int (nI t)]) (W1 := [(mo, oM (upd (upd (upd MF 0 0) 1 0) 4 0) g0 t0 z0), (t0, aI cI 174 (tab (setT (mTv mBeginT tv t) t (mBegin (mN (tv t)) ((tv t).1, (tv t).2.1, (tv t).2.2.1, (tv t).2.2.2)))))]) ⟨hx, hb, hml, hown, hts⟩ (mX3_begin l D cI cT mo g0 t0 z0 (upd (upd (upd MF 0 0) 1 0) 4 0) (mTv mBeginT tv t) t (by omega) (tv t).1 (tv t).2.1 (tv t).2.2.1 (tv t).2.2.2 (mTv_i _ _ _) (mN (tv t)) (hok t (by omega)).n.1 (hok t (by omega)).n.2) (cwV 1 hts gX3_restart_X3_begin rfl rfl rfl (by decide +kernel) ⟨Nat.le_of_ble_eq_true rfl, Nat.le_of_ble_eq_true rfl⟩) hK hP hD hS [0, 1] rfl (fun k q h => by simp at h) (sp_nsub hN [0, 1] (by decide) rfl) rfl rfl rfl (ci := 3) rfl rfl rfl rfl hl.1 rfl (Nat.le_of_ble_eq_true rfl) dX3_restart_27 ⟨Nat.le_of_ble_eq_true rfl, Nat.le_of_ble_eq_true rfl⟩ (fun H locs hP hD hS => ?_)
        have hP : va_P D vwCl [(mo, oM (upd (upd (upd MF 0 0) 1 0) 4 0) g0 t0 z0), (t0, aI cI 174 (tab (mTv mBeginT tv (t + 1))))] H := by rw [← mTv_up]; exact hP
        have hD : va_D A [(mo, oM (upd (upd (upd MF 0 0) 1 0) 4 0) g0 t0 z0), (t0, aI cI 174 (tab (mTv mBeginT tv (t + 1))))] := by rw [← mTv_up]; exact hD
        refine lv_iinc (v := nI (t + 1)) (lv' := [(1, .int (nI (t + 1))), (0, .ref mo)]) hx hb dX3_restart_30 hl (k := 0) rfl ((nI_1 t)) (by decide) rfl (fun ls hl => ?_)
        refine lv_goto (tgt := 17) hx hb dX3_restart_33 (by decide) ?_
        exact ih17 (t + 1) (by omega) (by omega) _ _ hP hD hS ls (lv_sub hl [0, 1] rfl)
  exact loop17 _ 0 (Nat.lt_succ_self _) (Nat.zero_le _) _ _ (by rw [mTv_0]; exact hP) (by rw [mTv_0]; exact hD) hS ls (lv_sub hl [0, 1] rfl)

abbrev rmX3_count : Room := { frames := 3, cells := 0, slots := 0, locals := 65 }
set_option maxHeartbeats 4000000 in
set_option maxRecDepth 100000 in
/-- count -/
theorem mX3_count (l : Launch) (D : va_G) (cI cT : ClassId) (mo g0 t0 z0 : Nat) (MF : Nat → Int32) (tv : Nat → TV) (x : Int32) (nt : Nat) (hnt : nt ≤ 6) (ht : MF 2 = nI nt) : MetI l D cI cT yX3_count wsX3_count rmX3_count [.ref mo, .int x] [(mo, oM MF g0 t0 z0), (t0, aI cI 174 (tab tv))] [] [(mo, oM (mCountC x MF tv nt).2 g0 t0 z0), (t0, aI cI 174 (tab tv))] ((mCountC x MF tv nt).1) := by
  refine Met.ofW (cc := cX3_count) (maxL := 2) (ret := (some .int)) (by decide) rfl ?_
  intro p e s m args below meth c s₁ B hml hv
  obtain ⟨hargs, hP, hR0, hK, hN⟩ := hv
  have hx := B.exec
  have hb := B.bytes
  have hr := B.returns
  have hts := atoms_spec (ws := wsX3_count) B.pre
  have hown : s.vm.findClass RX3 = some m.cls := findClass_of_methodNamed B.named
  have hlocks := B.notSynchronized
  have hiX3 : ∀ w ∈ u_ws RX3 TX3 9, w ∈ wsX3_count := by decide +kernel
  have he : entryFrame m args 2 = F0 m 0 ((lg_sl [.ref mo, .int x] ++ List.replicate (2 - (lg_sl [.ref mo, .int x]).length) Slot.unset).toArray) [] := by rw [hargs]; exact lg_entry_eq m _ _
  rw [he]
  change W p l e rmX3_count s m args below meth c s.heap [] 0 0 (MQ below (va_Qi (S := Unit) (fun z _ => z = (mCountC x MF tv nt).1) (fun _ t => va_P D vwCl [(mo, oM (mCountC x MF tv nt).2 g0 t0 z0), (t0, aI cI 174 (tab tv))] t.heap) (fr (List.map Prod.fst [(mo, oM MF g0 t0 z0), (t0, aI cI 174 (tab tv))]))) args s 0 0 (fr (List.map Prod.fst [(mo, oM MF g0 t0 z0), (t0, aI cI 174 (tab tv))]))) _
  obtain ⟨Q, hQ⟩ : ∃ Q, Q = MQ below (va_Qi (S := Unit) (fun z _ => z = (mCountC x MF tv nt).1) (fun _ t => va_P D vwCl [(mo, oM (mCountC x MF tv nt).2 g0 t0 z0), (t0, aI cI 174 (tab tv))] t.heap) (fr (List.map Prod.fst [(mo, oM MF g0 t0 z0), (t0, aI cI 174 (tab tv))]))) args s 0 0 (fr (List.map Prod.fst [(mo, oM MF g0 t0 z0), (t0, aI cI 174 (tab tv))])) := ⟨_, rfl⟩
  rw [← hQ]
  have hl := lv_entry [.ref mo, .int x] (n := 2) (Nat.le_of_ble_eq_true rfl)
  generalize (lg_sl [.ref mo, .int x] ++ List.replicate (2 - (lg_sl [.ref mo, .int x]).length) Slot.unset).toArray = ls at hl ⊢
  have hl : lv_has ls 2 [(0, .ref mo), (1, .int x)] := hl
  obtain ⟨A, hAe⟩ : ∃ A, A = (fr (List.map Prod.fst [(mo, oM MF g0 t0 z0), (t0, aI cI 174 (tab tv))])) := ⟨_, rfl⟩
  have hA0 : ∀ q ∈ List.map Prod.fst [(mo, oM MF g0 t0 z0), (t0, aI cI 174 (tab tv))], A q := by rw [hAe]; exact fun q h => h
  have hD : va_D A [(mo, oM MF g0 t0 z0), (t0, aI cI 174 (tab tv))] := sp_D (List.nodup_append.mp (show (([(mo, oM MF g0 t0 z0), (t0, aI cI 174 (tab tv))] : va_W).map Prod.fst ++ ([] : va_W).map Prod.fst).Nodup by rw [← List.map_append]; exact hN)).1 hA0
  have hN : (List.map Prod.fst ([(mo, oM MF g0 t0 z0), (t0, aI cI 174 (tab tv))] ++ []) : List Nat).Nodup := hN
  have hS : va_S A s.heap s.heap [] := va_S.rf
  obtain ⟨H, hH0⟩ : ∃ H, H = s.heap := ⟨_, rfl⟩
  obtain ⟨locs, hlo⟩ : ∃ L : List Loc, L = [] := ⟨_, rfl⟩
  have hP : va_P D vwCl [(mo, oM MF g0 t0 z0), (t0, aI cI 174 (tab tv))] H := by rw [hH0]; exact hP
  have hS : va_S A s.heap H locs := by rw [hH0, hlo]; exact hS
  rw [show W p l e rmX3_count s m args below meth c s.heap [] 0 0 Q (F0 m 0 ls []) = W p l e rmX3_count s m args below meth c H locs 0 0 Q (F0 m 0 ls []) by rw [hH0, hlo]]
  clear hH0 hlo
  refine lv_aload_n hx hb dX3_count_0 rfl (lv_at hl 0 rfl) ?_
  refine lv_iconst (v := 0) hx hb dX3_count_1 (by decide) ?_
  refine va_put (D := D) (ci := 3) (v := .int 0) (ty := .int) (C := RX3) (T := TX3) (N := 9) hx hb hts hiX3 tyX3 tyX3_ok nmX3 hown hK.1 hP hD hS 0 rfl rfl 0 (by decide) (hts (.fieldLink RX3 26 "SledgeRaceModel" "thrown" "I") (by decide +kernel)) (fun _ h9 => h9) rfl (by decide +kernel) rfl rfl (Nat.le_of_ble_eq_true rfl) dX3_count_2 (fun H locs hP hD hS => ?_)
  have hP : va_P D vwCl [(mo, oM (upd MF 0 0) g0 t0 z0), (t0, aI cI 174 (tab tv))] H := hP
  have hD : va_D A [(mo, oM (upd MF 0 0) g0 t0 z0), (t0, aI cI 174 (tab tv))] := hD
  refine lv_iload_n hx hb dX3_count_5 rfl (lv_at hl 1 rfl) ?_
  refine lv_iconst (v := 0) hx hb dX3_count_6 (by decide) ?_
  refine lv_iconst (v := 5) hx hb dX3_count_7 (by decide) ?_
  refine sp_rS (rest := []) (As := [.int x, .int 0, .int 5]) ⟨hx, hb, hml, hown, hts⟩ (mX3_isIn l D cI cT x 0 5) (va_cwS 3 hts gX3_count_X3_isIn rfl rfl rfl (by decide +kernel) ⟨Nat.le_of_ble_eq_true rfl, Nat.le_of_ble_eq_true rfl⟩) hK (show va_P D vwCl [] _ from fun k q h => by simp at h) rfl hl.1 rfl (Nat.le_of_ble_eq_true rfl) dX3_count_8 ⟨Nat.le_of_ble_eq_true rfl, Nat.le_of_ble_eq_true rfl⟩ ?_
  refine sp_if_eq (tgt := 22) hx hb dX3_count_11 (by decide) (fun c11 => ?_) (fun c11 => ?_)
  · skip
    refine lv_aload_n hx hb dX3_count_22 rfl (lv_at hl 0 rfl) ?_
    refine lv_iconst (v := 1) hx hb dX3_count_23 (by decide) ?_
    refine sp_vI (rest := []) (As := [.int 1]) (W1 := [(mo, oM (upd (upd MF 0 0) 0 1) g0 t0 z0), (t0, aI cI 174 (tab tv))]) ⟨hx, hb, hml, hown, hts⟩ (mX3_fail l D cI cT mo g0 t0 z0 (upd MF 0 0) 1) (cwV 1 hts gX3_count_X3_fail rfl rfl rfl (by decide +kernel) ⟨Nat.le_of_ble_eq_true rfl, Nat.le_of_ble_eq_true rfl⟩) hK hP hD hS [0] rfl (fun k q h => by simp at h) (sp_nsub hN [0] (by decide) rfl) rfl rfl rfl (ci := 3) rfl rfl rfl rfl hl.1 rfl (Nat.le_of_ble_eq_true rfl) dX3_count_24 ⟨Nat.le_of_ble_eq_true rfl, Nat.le_of_ble_eq_true rfl⟩ (fun H locs hP hD hS => ?_)
    have eq9 : (mCountC x MF tv nt) = (0, upd MF 0 1) := by unfold mCountC; rw [if_neg (by rw [c11]; decide)]
    refine sp_top (show 0 = (mCountC x MF tv nt).1 from by rw [eq9]) ?_
    subst hQ
    have hP9 : va_P D vwCl [(mo, oM (mCountC x MF tv nt).2 g0 t0 z0), (t0, aI cI 174 (tab tv))] H := by rw [eq9]; exact hP
    subst hAe
    exact W.iret hx hb hr (fun t ht hW => ⟨⟨_, (), rfl, rfl, by show va_P D vwCl _ t.heap; rw [ht]; exact hP9⟩, hS.F ht⟩) hS.2.2 dX3_count_27
  · skip
    refine lv_aload_n hx hb dX3_count_14 rfl (lv_at hl 0 rfl) ?_
    refine lv_iload_n hx hb dX3_count_15 rfl (lv_at hl 1 rfl) ?_
    refine sp_rV (rest := []) (As := [.int x]) ⟨hx, hb, hml, hown, hts⟩ (mX3_counted l D cI cT mo g0 t0 z0 (upd MF 0 0) tv x nt hnt ht) (cwV 1 hts gX3_count_X3_counted rfl rfl rfl (by decide +kernel) ⟨Nat.le_of_ble_eq_true rfl, Nat.le_of_ble_eq_true rfl⟩) hK (sp_pick hP [0, 1] rfl) (ci := 3) rfl rfl rfl rfl hl.1 rfl (Nat.le_of_ble_eq_true rfl) dX3_count_16 ⟨Nat.le_of_ble_eq_true rfl, Nat.le_of_ble_eq_true rfl⟩ ?_
    refine lv_goto (tgt := 27) hx hb dX3_count_19 (by decide) ?_
    have eq9 : (mCountC x MF tv nt) = (mCount (upd MF 0 0) tv nt x, upd MF 0 0) := by unfold mCountC; rw [if_pos c11]; rfl
    refine sp_top (show mCount (upd MF 0 0) tv nt x = (mCountC x MF tv nt).1 from by rw [eq9]) ?_
    subst hQ
    have hP9 : va_P D vwCl [(mo, oM (mCountC x MF tv nt).2 g0 t0 z0), (t0, aI cI 174 (tab tv))] H := by rw [eq9]; exact hP
    subst hAe
    exact W.iret hx hb hr (fun t ht hW => ⟨⟨_, (), rfl, rfl, by show va_P D vwCl _ t.heap; rw [ht]; exact hP9⟩, hS.F ht⟩) hS.2.2 dX3_count_27

abbrev rmX3_team : Room := { frames := 5, cells := 0, slots := 0, locals := 114 }
set_option maxHeartbeats 4000000 in
set_option maxRecDepth 100000 in
/-- team -/
theorem mX3_team (l : Launch) (D : va_G) (cI cT : ClassId) (mo g0 t0 z0 : Nat) (MF : Nat → Int32) (tv : Nat → TV) (x w : Int32) (nt : Nat) (hnt : nt ≤ 6) (ht : MF 2 = nI nt) (hok : ∀ t, t < nt → mOK (tv t)) : MetI l D cI cT yX3_team wsX3_team rmX3_team [.ref mo, .int x, .int w] [(mo, oM MF g0 t0 z0), (t0, aI cI 174 (tab tv))] [] [(mo, oM (mTeamC x w MF tv).2 g0 t0 z0), (t0, aI cI 174 (tab tv))] ((mTeamC x w MF tv).1) := by
  refine Met.ofW (cc := cX3_team) (maxL := 3) (ret := (some .int)) (by decide) rfl ?_
  intro p e s m args below meth c s₁ B hml hv
  obtain ⟨hargs, hP, hR0, hK, hN⟩ := hv
  have hx := B.exec
  have hb := B.bytes
  have hr := B.returns
  have hts := atoms_spec (ws := wsX3_team) B.pre
  have hown : s.vm.findClass RX3 = some m.cls := findClass_of_methodNamed B.named
  have hlocks := B.notSynchronized
  have hiX3 : ∀ w ∈ u_ws RX3 TX3 9, w ∈ wsX3_team := by decide +kernel
  have he : entryFrame m args 3 = F0 m 0 ((lg_sl [.ref mo, .int x, .int w] ++ List.replicate (3 - (lg_sl [.ref mo, .int x, .int w]).length) Slot.unset).toArray) [] := by rw [hargs]; exact lg_entry_eq m _ _
  rw [he]
  change W p l e rmX3_team s m args below meth c s.heap [] 0 0 (MQ below (va_Qi (S := Unit) (fun z _ => z = (mTeamC x w MF tv).1) (fun _ t => va_P D vwCl [(mo, oM (mTeamC x w MF tv).2 g0 t0 z0), (t0, aI cI 174 (tab tv))] t.heap) (fr (List.map Prod.fst [(mo, oM MF g0 t0 z0), (t0, aI cI 174 (tab tv))]))) args s 0 0 (fr (List.map Prod.fst [(mo, oM MF g0 t0 z0), (t0, aI cI 174 (tab tv))]))) _
  obtain ⟨Q, hQ⟩ : ∃ Q, Q = MQ below (va_Qi (S := Unit) (fun z _ => z = (mTeamC x w MF tv).1) (fun _ t => va_P D vwCl [(mo, oM (mTeamC x w MF tv).2 g0 t0 z0), (t0, aI cI 174 (tab tv))] t.heap) (fr (List.map Prod.fst [(mo, oM MF g0 t0 z0), (t0, aI cI 174 (tab tv))]))) args s 0 0 (fr (List.map Prod.fst [(mo, oM MF g0 t0 z0), (t0, aI cI 174 (tab tv))])) := ⟨_, rfl⟩
  rw [← hQ]
  have hl := lv_entry [.ref mo, .int x, .int w] (n := 3) (Nat.le_of_ble_eq_true rfl)
  generalize (lg_sl [.ref mo, .int x, .int w] ++ List.replicate (3 - (lg_sl [.ref mo, .int x, .int w]).length) Slot.unset).toArray = ls at hl ⊢
  have hl : lv_has ls 3 [(0, .ref mo), (1, .int x), (2, .int w)] := hl
  obtain ⟨A, hAe⟩ : ∃ A, A = (fr (List.map Prod.fst [(mo, oM MF g0 t0 z0), (t0, aI cI 174 (tab tv))])) := ⟨_, rfl⟩
  have hA0 : ∀ q ∈ List.map Prod.fst [(mo, oM MF g0 t0 z0), (t0, aI cI 174 (tab tv))], A q := by rw [hAe]; exact fun q h => h
  have hD : va_D A [(mo, oM MF g0 t0 z0), (t0, aI cI 174 (tab tv))] := sp_D (List.nodup_append.mp (show (([(mo, oM MF g0 t0 z0), (t0, aI cI 174 (tab tv))] : va_W).map Prod.fst ++ ([] : va_W).map Prod.fst).Nodup by rw [← List.map_append]; exact hN)).1 hA0
  have hN : (List.map Prod.fst ([(mo, oM MF g0 t0 z0), (t0, aI cI 174 (tab tv))] ++ []) : List Nat).Nodup := hN
  have hS : va_S A s.heap s.heap [] := va_S.rf
  obtain ⟨H, hH0⟩ : ∃ H, H = s.heap := ⟨_, rfl⟩
  obtain ⟨locs, hlo⟩ : ∃ L : List Loc, L = [] := ⟨_, rfl⟩
  have hP : va_P D vwCl [(mo, oM MF g0 t0 z0), (t0, aI cI 174 (tab tv))] H := by rw [hH0]; exact hP
  have hS : va_S A s.heap H locs := by rw [hH0, hlo]; exact hS
  rw [show W p l e rmX3_team s m args below meth c s.heap [] 0 0 Q (F0 m 0 ls []) = W p l e rmX3_team s m args below meth c H locs 0 0 Q (F0 m 0 ls []) by rw [hH0, hlo]]
  clear hH0 hlo
  refine lv_aload_n hx hb dX3_team_0 rfl (lv_at hl 0 rfl) ?_
  refine lv_iconst (v := 0) hx hb dX3_team_1 (by decide) ?_
  refine va_put (D := D) (ci := 3) (v := .int 0) (ty := .int) (C := RX3) (T := TX3) (N := 9) hx hb hts hiX3 tyX3 tyX3_ok nmX3 hown hK.1 hP hD hS 0 rfl rfl 0 (by decide) (hts (.fieldLink RX3 26 "SledgeRaceModel" "thrown" "I") (by decide +kernel)) (fun _ h9 => h9) rfl (by decide +kernel) rfl rfl (Nat.le_of_ble_eq_true rfl) dX3_team_2 (fun H locs hP hD hS => ?_)
  have hP : va_P D vwCl [(mo, oM (upd MF 0 0) g0 t0 z0), (t0, aI cI 174 (tab tv))] H := hP
  have hD : va_D A [(mo, oM (upd MF 0 0) g0 t0 z0), (t0, aI cI 174 (tab tv))] := hD
  refine lv_aload_n hx hb dX3_team_5 rfl (lv_at hl 0 rfl) ?_
  refine lv_iload_n hx hb dX3_team_6 rfl (lv_at hl 1 rfl) ?_
  refine sp_rV (rest := []) (As := [.int x]) ⟨hx, hb, hml, hown, hts⟩ (mX3_isTeam l D cI cT mo g0 t0 z0 (upd MF 0 0) x) (cwV 1 hts gX3_team_X3_isTeam rfl rfl rfl (by decide +kernel) ⟨Nat.le_of_ble_eq_true rfl, Nat.le_of_ble_eq_true rfl⟩) hK (sp_pick hP [0] rfl) (ci := 3) rfl rfl rfl rfl hl.1 rfl (Nat.le_of_ble_eq_true rfl) dX3_team_7 ⟨Nat.le_of_ble_eq_true rfl, Nat.le_of_ble_eq_true rfl⟩ ?_
  refine sp_top (show bI (isIn x 0 ((upd MF 0 0) 2 - 1)) = bI (isIn x 0 (MF 2 - 1)) from rfl) ?_
  refine sp_if_eq (tgt := 32) hx hb dX3_team_10 (by decide) (fun c10 => ?_) (fun c10 => ?_)
  · skip
    refine lv_aload_n hx hb dX3_team_32 rfl (lv_at hl 0 rfl) ?_
    refine lv_iconst (v := 1) hx hb dX3_team_33 (by decide) ?_
    refine sp_vI (rest := []) (As := [.int 1]) (W1 := [(mo, oM (upd (upd MF 0 0) 0 1) g0 t0 z0), (t0, aI cI 174 (tab tv))]) ⟨hx, hb, hml, hown, hts⟩ (mX3_fail l D cI cT mo g0 t0 z0 (upd MF 0 0) 1) (cwV 1 hts gX3_team_X3_fail rfl rfl rfl (by decide +kernel) ⟨Nat.le_of_ble_eq_true rfl, Nat.le_of_ble_eq_true rfl⟩) hK hP hD hS [0] rfl (fun k q h => by simp at h) (sp_nsub hN [0] (by decide) rfl) rfl rfl rfl (ci := 3) rfl rfl rfl rfl hl.1 rfl (Nat.le_of_ble_eq_true rfl) dX3_team_34 ⟨Nat.le_of_ble_eq_true rfl, Nat.le_of_ble_eq_true rfl⟩ (fun H locs hP hD hS => ?_)
    have eq9 : (mTeamC x w MF tv) = (0, upd MF 0 1) := by unfold mTeamC; rw [if_neg (by simp [c10])]
    refine sp_top (show 0 = (mTeamC x w MF tv).1 from by rw [eq9]) ?_
    subst hQ
    have hP9 : va_P D vwCl [(mo, oM (mTeamC x w MF tv).2 g0 t0 z0), (t0, aI cI 174 (tab tv))] H := by rw [eq9]; exact hP
    subst hAe
    exact W.iret hx hb hr (fun t ht hW => ⟨⟨_, (), rfl, rfl, by show va_P D vwCl _ t.heap; rw [ht]; exact hP9⟩, hS.F ht⟩) hS.2.2 dX3_team_37
  · skip
    obtain ⟨i, hi, rfl⟩ := isIn_nat (b := nt) (by omega) (show isIn x 0 (nI nt - 1) = true from by rw [← ht]; exact c10)
    refine lv_iload_n hx hb dX3_team_13 rfl (lv_at hl 2 rfl) ?_
    refine lv_iconst (v := 0) hx hb dX3_team_14 (by decide) ?_
    refine lv_bipush (v := 11) hx hb dX3_team_15 (by decide) ?_
    refine sp_rS (rest := []) (As := [.int w, .int 0, .int 11]) ⟨hx, hb, hml, hown, hts⟩ (mX3_isIn l D cI cT w 0 11) (va_cwS 3 hts gX3_team_X3_isIn rfl rfl rfl (by decide +kernel) ⟨Nat.le_of_ble_eq_true rfl, Nat.le_of_ble_eq_true rfl⟩) hK (show va_P D vwCl [] _ from fun k q h => by simp at h) rfl hl.1 rfl (Nat.le_of_ble_eq_true rfl) dX3_team_17 ⟨Nat.le_of_ble_eq_true rfl, Nat.le_of_ble_eq_true rfl⟩ ?_
    refine sp_if_eq (tgt := 32) hx hb dX3_team_20 (by decide) (fun c20 => ?_) (fun c20 => ?_)
    · skip
      refine lv_aload_n hx hb dX3_team_32 rfl (lv_at hl 0 rfl) ?_
      refine lv_iconst (v := 1) hx hb dX3_team_33 (by decide) ?_
      refine sp_vI (rest := []) (As := [.int 1]) (W1 := [(mo, oM (upd (upd MF 0 0) 0 1) g0 t0 z0), (t0, aI cI 174 (tab tv))]) ⟨hx, hb, hml, hown, hts⟩ (mX3_fail l D cI cT mo g0 t0 z0 (upd MF 0 0) 1) (cwV 1 hts gX3_team_X3_fail rfl rfl rfl (by decide +kernel) ⟨Nat.le_of_ble_eq_true rfl, Nat.le_of_ble_eq_true rfl⟩) hK hP hD hS [0] rfl (fun k q h => by simp at h) (sp_nsub hN [0] (by decide) rfl) rfl rfl rfl (ci := 3) rfl rfl rfl rfl hl.1 rfl (Nat.le_of_ble_eq_true rfl) dX3_team_34 ⟨Nat.le_of_ble_eq_true rfl, Nat.le_of_ble_eq_true rfl⟩ (fun H locs hP hD hS => ?_)
      have eq9 : (mTeamC (nI i) w MF tv) = (0, upd MF 0 1) := by unfold mTeamC; rw [if_neg (by simp [c20])]
      refine sp_top (show 0 = (mTeamC (nI i) w MF tv).1 from by rw [eq9]) ?_
      subst hQ
      have hP9 : va_P D vwCl [(mo, oM (mTeamC (nI i) w MF tv).2 g0 t0 z0), (t0, aI cI 174 (tab tv))] H := by rw [eq9]; exact hP
      subst hAe
      exact W.iret hx hb hr (fun t ht hW => ⟨⟨_, (), rfl, rfl, by show va_P D vwCl _ t.heap; rw [ht]; exact hP9⟩, hS.F ht⟩) hS.2.2 dX3_team_37
    · skip
      refine lv_aload_n hx hb dX3_team_23 rfl (lv_at hl 0 rfl) ?_
      refine lv_iload_n hx hb dX3_team_24 rfl (lv_at hl 1 rfl) ?_
      refine lv_iload_n hx hb dX3_team_25 rfl (lv_at hl 2 rfl) ?_
      refine sp_rV (rest := []) (As := [.int (nI i), .int w]) ⟨hx, hb, hml, hown, hts⟩ (mX3_teamTold l D cI cT mo g0 t0 z0 (upd MF 0 0) tv i (by omega) ((tv i).1) ((tv i).2.1) ((tv i).2.2.1) ((tv i).2.2.2) (rfl) w (mN (tv i)) (hok i hi).n.1 (hok i hi).n.2) (cwV 2 hts gX3_team_X3_teamTold rfl rfl rfl (by decide +kernel) ⟨Nat.le_of_ble_eq_true rfl, Nat.le_of_ble_eq_true rfl⟩) hK (sp_pick hP [0, 1] rfl) (ci := 3) rfl rfl rfl rfl hl.1 rfl (Nat.le_of_ble_eq_true rfl) dX3_team_26 ⟨Nat.le_of_ble_eq_true rfl, Nat.le_of_ble_eq_true rfl⟩ ?_
      refine lv_goto (tgt := 37) hx hb dX3_team_29 (by decide) ?_
      have eq9 : (mTeamC (nI i) w MF tv) = (mTold (tv i).1 (tv i).2.1 (tv i).2.2.1 (mN (tv i)) w, upd MF 0 0) := by unfold mTeamC; rw [if_pos (by rw [c10, c20]; rfl), nI_clamp (by omega)]; rfl
      refine sp_top (show mTold ((tv i).1) ((tv i).2.1) ((tv i).2.2.1) (mN (tv i)) w = (mTeamC (nI i) w MF tv).1 from by rw [eq9]) ?_
      subst hQ
      have hP9 : va_P D vwCl [(mo, oM (mTeamC (nI i) w MF tv).2 g0 t0 z0), (t0, aI cI 174 (tab tv))] H := by rw [eq9]; exact hP
      subst hAe
      exact W.iret hx hb hr (fun t ht hW => ⟨⟨_, (), rfl, rfl, by show va_P D vwCl _ t.heap; rw [ht]; exact hP9⟩, hS.F ht⟩) hS.2.2 dX3_team_37

abbrev rmX3_roller : Room := { frames := 2, cells := 0, slots := 0, locals := 45 }
set_option maxHeartbeats 4000000 in
set_option maxRecDepth 100000 in
/-- roller -/
theorem mX3_roller (l : Launch) (D : va_G) (cI cT : ClassId) (mo g0 t0 z0 : Nat) (MF : Nat → Int32) (tv : Nat → TV) (x y : Int32) (nt : Nat) (hnt : nt ≤ 6) (ht : MF 2 = nI nt) (hok : ∀ t, t < nt → mOK (tv t)) : MetI l D cI cT yX3_roller wsX3_roller rmX3_roller [.ref mo, .int x, .int y] [(mo, oM MF g0 t0 z0), (t0, aI cI 174 (tab tv))] [] [(mo, oM (mRollerC x y MF tv).2 g0 t0 z0), (t0, aI cI 174 (tab tv))] ((mRollerC x y MF tv).1) := by
  refine Met.ofW (cc := cX3_roller) (maxL := 3) (ret := (some .int)) (by decide) rfl ?_
  intro p e s m args below meth c s₁ B hml hv
  obtain ⟨hargs, hP, hR0, hK, hN⟩ := hv
  have hx := B.exec
  have hb := B.bytes
  have hr := B.returns
  have hts := atoms_spec (ws := wsX3_roller) B.pre
  have hown : s.vm.findClass RX3 = some m.cls := findClass_of_methodNamed B.named
  have hlocks := B.notSynchronized
  have hiX3 : ∀ w ∈ u_ws RX3 TX3 9, w ∈ wsX3_roller := by decide +kernel
  have he : entryFrame m args 3 = F0 m 0 ((lg_sl [.ref mo, .int x, .int y] ++ List.replicate (3 - (lg_sl [.ref mo, .int x, .int y]).length) Slot.unset).toArray) [] := by rw [hargs]; exact lg_entry_eq m _ _
  rw [he]
  change W p l e rmX3_roller s m args below meth c s.heap [] 0 0 (MQ below (va_Qi (S := Unit) (fun z _ => z = (mRollerC x y MF tv).1) (fun _ t => va_P D vwCl [(mo, oM (mRollerC x y MF tv).2 g0 t0 z0), (t0, aI cI 174 (tab tv))] t.heap) (fr (List.map Prod.fst [(mo, oM MF g0 t0 z0), (t0, aI cI 174 (tab tv))]))) args s 0 0 (fr (List.map Prod.fst [(mo, oM MF g0 t0 z0), (t0, aI cI 174 (tab tv))]))) _
  obtain ⟨Q, hQ⟩ : ∃ Q, Q = MQ below (va_Qi (S := Unit) (fun z _ => z = (mRollerC x y MF tv).1) (fun _ t => va_P D vwCl [(mo, oM (mRollerC x y MF tv).2 g0 t0 z0), (t0, aI cI 174 (tab tv))] t.heap) (fr (List.map Prod.fst [(mo, oM MF g0 t0 z0), (t0, aI cI 174 (tab tv))]))) args s 0 0 (fr (List.map Prod.fst [(mo, oM MF g0 t0 z0), (t0, aI cI 174 (tab tv))])) := ⟨_, rfl⟩
  rw [← hQ]
  have hl := lv_entry [.ref mo, .int x, .int y] (n := 3) (Nat.le_of_ble_eq_true rfl)
  generalize (lg_sl [.ref mo, .int x, .int y] ++ List.replicate (3 - (lg_sl [.ref mo, .int x, .int y]).length) Slot.unset).toArray = ls at hl ⊢
  have hl : lv_has ls 3 [(0, .ref mo), (1, .int x), (2, .int y)] := hl
  obtain ⟨A, hAe⟩ : ∃ A, A = (fr (List.map Prod.fst [(mo, oM MF g0 t0 z0), (t0, aI cI 174 (tab tv))])) := ⟨_, rfl⟩
  have hA0 : ∀ q ∈ List.map Prod.fst [(mo, oM MF g0 t0 z0), (t0, aI cI 174 (tab tv))], A q := by rw [hAe]; exact fun q h => h
  have hD : va_D A [(mo, oM MF g0 t0 z0), (t0, aI cI 174 (tab tv))] := sp_D (List.nodup_append.mp (show (([(mo, oM MF g0 t0 z0), (t0, aI cI 174 (tab tv))] : va_W).map Prod.fst ++ ([] : va_W).map Prod.fst).Nodup by rw [← List.map_append]; exact hN)).1 hA0
  have hN : (List.map Prod.fst ([(mo, oM MF g0 t0 z0), (t0, aI cI 174 (tab tv))] ++ []) : List Nat).Nodup := hN
  have hS : va_S A s.heap s.heap [] := va_S.rf
  obtain ⟨H, hH0⟩ : ∃ H, H = s.heap := ⟨_, rfl⟩
  obtain ⟨locs, hlo⟩ : ∃ L : List Loc, L = [] := ⟨_, rfl⟩
  have hP : va_P D vwCl [(mo, oM MF g0 t0 z0), (t0, aI cI 174 (tab tv))] H := by rw [hH0]; exact hP
  have hS : va_S A s.heap H locs := by rw [hH0, hlo]; exact hS
  rw [show W p l e rmX3_roller s m args below meth c s.heap [] 0 0 Q (F0 m 0 ls []) = W p l e rmX3_roller s m args below meth c H locs 0 0 Q (F0 m 0 ls []) by rw [hH0, hlo]]
  clear hH0 hlo
  refine lv_aload_n hx hb dX3_roller_0 rfl (lv_at hl 0 rfl) ?_
  refine lv_iconst (v := 0) hx hb dX3_roller_1 (by decide) ?_
  refine va_put (D := D) (ci := 3) (v := .int 0) (ty := .int) (C := RX3) (T := TX3) (N := 9) hx hb hts hiX3 tyX3 tyX3_ok nmX3 hown hK.1 hP hD hS 0 rfl rfl 0 (by decide) (hts (.fieldLink RX3 26 "SledgeRaceModel" "thrown" "I") (by decide +kernel)) (fun _ h9 => h9) rfl (by decide +kernel) rfl rfl (Nat.le_of_ble_eq_true rfl) dX3_roller_2 (fun H locs hP hD hS => ?_)
  have hP : va_P D vwCl [(mo, oM (upd MF 0 0) g0 t0 z0), (t0, aI cI 174 (tab tv))] H := hP
  have hD : va_D A [(mo, oM (upd MF 0 0) g0 t0 z0), (t0, aI cI 174 (tab tv))] := hD
  refine lv_aload_n hx hb dX3_roller_5 rfl (lv_at hl 0 rfl) ?_
  refine lv_iload_n hx hb dX3_roller_6 rfl (lv_at hl 1 rfl) ?_
  refine sp_rV (rest := []) (As := [.int x]) ⟨hx, hb, hml, hown, hts⟩ (mX3_isTeam l D cI cT mo g0 t0 z0 (upd MF 0 0) x) (cwV 1 hts gX3_roller_X3_isTeam rfl rfl rfl (by decide +kernel) ⟨Nat.le_of_ble_eq_true rfl, Nat.le_of_ble_eq_true rfl⟩) hK (sp_pick hP [0] rfl) (ci := 3) rfl rfl rfl rfl hl.1 rfl (Nat.le_of_ble_eq_true rfl) dX3_roller_7 ⟨Nat.le_of_ble_eq_true rfl, Nat.le_of_ble_eq_true rfl⟩ ?_
  refine sp_top (show bI (isIn x 0 ((upd MF 0 0) 2 - 1)) = bI (isIn x 0 (MF 2 - 1)) from rfl) ?_
  refine sp_if_eq (tgt := 29) hx hb dX3_roller_10 (by decide) (fun c10 => ?_) (fun c10 => ?_)
  · skip
    refine lv_aload_n hx hb dX3_roller_29 rfl (lv_at hl 0 rfl) ?_
    refine lv_iconst (v := 1) hx hb dX3_roller_30 (by decide) ?_
    refine sp_vI (rest := []) (As := [.int 1]) (W1 := [(mo, oM (upd (upd MF 0 0) 0 1) g0 t0 z0), (t0, aI cI 174 (tab tv))]) ⟨hx, hb, hml, hown, hts⟩ (mX3_fail l D cI cT mo g0 t0 z0 (upd MF 0 0) 1) (cwV 1 hts gX3_roller_X3_fail rfl rfl rfl (by decide +kernel) ⟨Nat.le_of_ble_eq_true rfl, Nat.le_of_ble_eq_true rfl⟩) hK hP hD hS [0] rfl (fun k q h => by simp at h) (sp_nsub hN [0] (by decide) rfl) rfl rfl rfl (ci := 3) rfl rfl rfl rfl hl.1 rfl (Nat.le_of_ble_eq_true rfl) dX3_roller_31 ⟨Nat.le_of_ble_eq_true rfl, Nat.le_of_ble_eq_true rfl⟩ (fun H locs hP hD hS => ?_)
    have eq9 : (mRollerC x y MF tv) = (0, upd MF 0 1) := by unfold mRollerC; rw [if_neg (by simp [c10])]
    refine sp_top (show 0 = (mRollerC x y MF tv).1 from by rw [eq9]) ?_
    subst hQ
    have hP9 : va_P D vwCl [(mo, oM (mRollerC x y MF tv).2 g0 t0 z0), (t0, aI cI 174 (tab tv))] H := by rw [eq9]; exact hP
    subst hAe
    exact W.iret hx hb hr (fun t ht hW => ⟨⟨_, (), rfl, rfl, by show va_P D vwCl _ t.heap; rw [ht]; exact hP9⟩, hS.F ht⟩) hS.2.2 dX3_roller_34
  · skip
    obtain ⟨i, hi, rfl⟩ := isIn_nat (b := nt) (by omega) (show isIn x 0 (nI nt - 1) = true from by rw [← ht]; exact c10)
    refine lv_iload_n hx hb dX3_roller_13 rfl (lv_at hl 2 rfl) ?_
    refine lv_iconst (v := 0) hx hb dX3_roller_14 (by decide) ?_
    refine lv_aload_n hx hb dX3_roller_15 rfl (lv_at hl 0 rfl) ?_
    refine lv_iload_n hx hb dX3_roller_16 rfl (lv_at hl 1 rfl) ?_
    refine lv_iconst (v := 2) hx hb dX3_roller_17 (by decide) ?_
    refine sp_rV (rest := [.int 0, .int y]) (As := [.int (nI i), .int (nI 2)]) ⟨hx, hb, hml, hown, hts⟩ (mX3_get l D cI cT mo g0 t0 z0 (upd MF 0 0) tv i 2 (((tv i).1) 2) (by omega) (by omega) (rfl)) (cwV 2 hts gX3_roller_X3_get rfl rfl rfl (by decide +kernel) ⟨Nat.le_of_ble_eq_true rfl, Nat.le_of_ble_eq_true rfl⟩) hK (sp_pick hP [0, 1] rfl) (ci := 3) rfl rfl rfl rfl hl.1 rfl (Nat.le_of_ble_eq_true rfl) dX3_roller_18 ⟨Nat.le_of_ble_eq_true rfl, Nat.le_of_ble_eq_true rfl⟩ ?_
    refine lv_iconst (v := 1) hx hb dX3_roller_21 (by decide) ?_
    refine lv_isub hx hb dX3_roller_22 ?_
    refine sp_rS (rest := []) (As := [.int y, .int 0, .int ((((tv i).1) 2) - 1)]) ⟨hx, hb, hml, hown, hts⟩ (mX3_isIn l D cI cT y 0 ((((tv i).1) 2) - 1)) (va_cwS 3 hts gX3_roller_X3_isIn rfl rfl rfl (by decide +kernel) ⟨Nat.le_of_ble_eq_true rfl, Nat.le_of_ble_eq_true rfl⟩) hK (show va_P D vwCl [] _ from fun k q h => by simp at h) rfl hl.1 rfl (Nat.le_of_ble_eq_true rfl) dX3_roller_23 ⟨Nat.le_of_ble_eq_true rfl, Nat.le_of_ble_eq_true rfl⟩ ?_
    refine sp_if_ne (tgt := 35) hx hb dX3_roller_26 (by decide) (fun c26 => ?_) (fun c26 => ?_)
    · skip
      have hok8 := (hok i hi).n.1
      obtain ⟨k, hk, rfl⟩ := isIn_nat (b := mN (tv i)) (by omega) (show isIn y 0 (nI (mN (tv i)) - 1) = true from by rw [← (hok i hi).n.2]; exact c26)
      refine lv_aload_n hx hb dX3_roller_35 rfl (lv_at hl 0 rfl) ?_
      refine lv_iload_n hx hb dX3_roller_36 rfl (lv_at hl 1 rfl) ?_
      refine lv_iload_n hx hb dX3_roller_37 rfl (lv_at hl 2 rfl) ?_
      refine sp_rV (rest := []) (As := [.int (nI i), .int (nI k)]) ⟨hx, hb, hml, hown, hts⟩ (mX3_isCarried l D cI cT mo g0 t0 z0 (upd MF 0 0) tv i (by omega) ((tv i).1) ((tv i).2.1) ((tv i).2.2.1) ((tv i).2.2.2) (rfl) (nI k)) (cwV 2 hts gX3_roller_X3_isCarried rfl rfl rfl (by decide +kernel) ⟨Nat.le_of_ble_eq_true rfl, Nat.le_of_ble_eq_true rfl⟩) hK (sp_pick hP [0, 1] rfl) (ci := 3) rfl rfl rfl rfl hl.1 rfl (Nat.le_of_ble_eq_true rfl) dX3_roller_38 ⟨Nat.le_of_ble_eq_true rfl, Nat.le_of_ble_eq_true rfl⟩ ?_
      refine sp_if_eq (tgt := 52) hx hb dX3_roller_41 (by decide) (fun c41 => ?_) (fun c41 => ?_)
      · skip
        refine lv_aload_n hx hb dX3_roller_52 rfl (lv_at hl 0 rfl) ?_
        refine lv_iload_n hx hb dX3_roller_53 rfl (lv_at hl 1 rfl) ?_
        refine lv_bipush (v := nI 15) hx hb dX3_roller_54 (by decide) ?_
        refine lv_iload_n hx hb dX3_roller_56 rfl (lv_at hl 2 rfl) ?_
        refine lv_iadd hx hb dX3_roller_57 ?_
        refine sp_top (nI_add 15 k : (nI 15) + (nI k) = nI (15 + k)) ?_
        refine sp_rV (rest := []) (As := [.int (nI i), .int (nI (15 + k))]) ⟨hx, hb, hml, hown, hts⟩ (mX3_get l D cI cT mo g0 t0 z0 (upd MF 0 0) tv i (15 + k) (((tv i).2.1) k) (by omega) (by omega) (row_P _ (by omega))) (cwV 2 hts gX3_roller_X3_get rfl rfl rfl (by decide +kernel) ⟨Nat.le_of_ble_eq_true rfl, Nat.le_of_ble_eq_true rfl⟩) hK (sp_pick hP [0, 1] rfl) (ci := 3) rfl rfl rfl rfl hl.1 rfl (Nat.le_of_ble_eq_true rfl) dX3_roller_58 ⟨Nat.le_of_ble_eq_true rfl, Nat.le_of_ble_eq_true rfl⟩ ?_
        have eq9 : (mRollerC (nI i) (nI k) MF tv) = ((tv i).2.1 k, upd MF 0 0) := by unfold mRollerC; rw [nI_clamp (by omega), if_pos (by rw [c10, c26]; rfl), if_neg (by rw [c41]; decide), nI_clamp (by omega)]
        refine sp_top (show ((tv i).2.1) k = (mRollerC (nI i) (nI k) MF tv).1 from by rw [eq9]) ?_
        subst hQ
        have hP9 : va_P D vwCl [(mo, oM (mRollerC (nI i) (nI k) MF tv).2 g0 t0 z0), (t0, aI cI 174 (tab tv))] H := by rw [eq9]; exact hP
        subst hAe
        exact W.iret hx hb hr (fun t ht hW => ⟨⟨_, (), rfl, rfl, by show va_P D vwCl _ t.heap; rw [ht]; exact hP9⟩, hS.F ht⟩) hS.2.2 dX3_roller_61
      · skip
        refine lv_aload_n hx hb dX3_roller_44 rfl (lv_at hl 0 rfl) ?_
        refine lv_iconst (v := 2) hx hb dX3_roller_45 (by decide) ?_
        refine sp_vI (rest := []) (As := [.int 2]) (W1 := [(mo, oM (upd (upd MF 0 0) 0 2) g0 t0 z0), (t0, aI cI 174 (tab tv))]) ⟨hx, hb, hml, hown, hts⟩ (mX3_fail l D cI cT mo g0 t0 z0 (upd MF 0 0) 2) (cwV 1 hts gX3_roller_X3_fail rfl rfl rfl (by decide +kernel) ⟨Nat.le_of_ble_eq_true rfl, Nat.le_of_ble_eq_true rfl⟩) hK hP hD hS [0] rfl (fun k q h => by simp at h) (sp_nsub hN [0] (by decide) rfl) rfl rfl rfl (ci := 3) rfl rfl rfl rfl hl.1 rfl (Nat.le_of_ble_eq_true rfl) dX3_roller_46 ⟨Nat.le_of_ble_eq_true rfl, Nat.le_of_ble_eq_true rfl⟩ (fun H locs hP hD hS => ?_)
        refine lv_goto (tgt := 61) hx hb dX3_roller_49 (by decide) ?_
        have eq9 : (mRollerC (nI i) (nI k) MF tv) = (0, upd MF 0 2) := by unfold mRollerC; rw [nI_clamp (by omega), if_pos (by rw [c10, c26]; rfl), if_pos c41]
        refine sp_top (show 0 = (mRollerC (nI i) (nI k) MF tv).1 from by rw [eq9]) ?_
        subst hQ
        have hP9 : va_P D vwCl [(mo, oM (mRollerC (nI i) (nI k) MF tv).2 g0 t0 z0), (t0, aI cI 174 (tab tv))] H := by rw [eq9]; exact hP
        subst hAe
        exact W.iret hx hb hr (fun t ht hW => ⟨⟨_, (), rfl, rfl, by show va_P D vwCl _ t.heap; rw [ht]; exact hP9⟩, hS.F ht⟩) hS.2.2 dX3_roller_61
    · skip
      refine lv_aload_n hx hb dX3_roller_29 rfl (lv_at hl 0 rfl) ?_
      refine lv_iconst (v := 1) hx hb dX3_roller_30 (by decide) ?_
      refine sp_vI (rest := []) (As := [.int 1]) (W1 := [(mo, oM (upd (upd MF 0 0) 0 1) g0 t0 z0), (t0, aI cI 174 (tab tv))]) ⟨hx, hb, hml, hown, hts⟩ (mX3_fail l D cI cT mo g0 t0 z0 (upd MF 0 0) 1) (cwV 1 hts gX3_roller_X3_fail rfl rfl rfl (by decide +kernel) ⟨Nat.le_of_ble_eq_true rfl, Nat.le_of_ble_eq_true rfl⟩) hK hP hD hS [0] rfl (fun k q h => by simp at h) (sp_nsub hN [0] (by decide) rfl) rfl rfl rfl (ci := 3) rfl rfl rfl rfl hl.1 rfl (Nat.le_of_ble_eq_true rfl) dX3_roller_31 ⟨Nat.le_of_ble_eq_true rfl, Nat.le_of_ble_eq_true rfl⟩ (fun H locs hP hD hS => ?_)
      have eq9 : (mRollerC (nI i) y MF tv) = (0, upd MF 0 1) := by unfold mRollerC; rw [if_neg (by rw [nI_clamp (by omega), c26]; simp)]
      refine sp_top (show 0 = (mRollerC (nI i) y MF tv).1 from by rw [eq9]) ?_
      subst hQ
      have hP9 : va_P D vwCl [(mo, oM (mRollerC (nI i) y MF tv).2 g0 t0 z0), (t0, aI cI 174 (tab tv))] H := by rw [eq9]; exact hP
      subst hAe
      exact W.iret hx hb hr (fun t ht hW => ⟨⟨_, (), rfl, rfl, by show va_P D vwCl _ t.heap; rw [ht]; exact hP9⟩, hS.F ht⟩) hS.2.2 dX3_roller_34

abbrev rmX3_next : Room := { frames := 6, cells := 0, slots := 0, locals := 139 }
set_option maxHeartbeats 4000000 in
set_option maxRecDepth 100000 in
/-- next -/
theorem mX3_next (l : Launch) (D : va_G) (cI cT : ClassId) (mo g0 t0 z0 : Nat) (MF : Nat → Int32) (g : Nat → Int32) (tv : Nat → TV) (x w : Int32) (ns : Nat) (hns0 : 0 < ns) (hns : ns ≤ 12) (h5 : MF 5 = nI ns) (nt : Nat) (hnt : nt ≤ 6) (ht : MF 2 = nI nt) (hok : ∀ t, t < nt → mOK (tv t)) : MetI l D cI cT yX3_next wsX3_next rmX3_next [.ref mo, .int x, .int w] [(mo, oM MF g0 t0 z0), (g0, aI cI 39 g), (t0, aI cI 174 (tab tv))] [] [(mo, oM (mNextC x w MF g ns tv).2 g0 t0 z0), (g0, aI cI 39 g), (t0, aI cI 174 (tab tv))] ((mNextC x w MF g ns tv).1) := by
  refine Met.ofW (cc := cX3_next) (maxL := 3) (ret := (some .int)) (by decide) rfl ?_
  intro p e s m args below meth c s₁ B hml hv
  obtain ⟨hargs, hP, hR0, hK, hN⟩ := hv
  have hx := B.exec
  have hb := B.bytes
  have hr := B.returns
  have hts := atoms_spec (ws := wsX3_next) B.pre
  have hown : s.vm.findClass RX3 = some m.cls := findClass_of_methodNamed B.named
  have hlocks := B.notSynchronized
  have hiX3 : ∀ w ∈ u_ws RX3 TX3 9, w ∈ wsX3_next := by decide +kernel
  have he : entryFrame m args 3 = F0 m 0 ((lg_sl [.ref mo, .int x, .int w] ++ List.replicate (3 - (lg_sl [.ref mo, .int x, .int w]).length) Slot.unset).toArray) [] := by rw [hargs]; exact lg_entry_eq m _ _
  rw [he]
  change W p l e rmX3_next s m args below meth c s.heap [] 0 0 (MQ below (va_Qi (S := Unit) (fun z _ => z = (mNextC x w MF g ns tv).1) (fun _ t => va_P D vwCl [(mo, oM (mNextC x w MF g ns tv).2 g0 t0 z0), (g0, aI cI 39 g), (t0, aI cI 174 (tab tv))] t.heap) (fr (List.map Prod.fst [(mo, oM MF g0 t0 z0), (g0, aI cI 39 g), (t0, aI cI 174 (tab tv))]))) args s 0 0 (fr (List.map Prod.fst [(mo, oM MF g0 t0 z0), (g0, aI cI 39 g), (t0, aI cI 174 (tab tv))]))) _
  obtain ⟨Q, hQ⟩ : ∃ Q, Q = MQ below (va_Qi (S := Unit) (fun z _ => z = (mNextC x w MF g ns tv).1) (fun _ t => va_P D vwCl [(mo, oM (mNextC x w MF g ns tv).2 g0 t0 z0), (g0, aI cI 39 g), (t0, aI cI 174 (tab tv))] t.heap) (fr (List.map Prod.fst [(mo, oM MF g0 t0 z0), (g0, aI cI 39 g), (t0, aI cI 174 (tab tv))]))) args s 0 0 (fr (List.map Prod.fst [(mo, oM MF g0 t0 z0), (g0, aI cI 39 g), (t0, aI cI 174 (tab tv))])) := ⟨_, rfl⟩
  rw [← hQ]
  have hl := lv_entry [.ref mo, .int x, .int w] (n := 3) (Nat.le_of_ble_eq_true rfl)
  generalize (lg_sl [.ref mo, .int x, .int w] ++ List.replicate (3 - (lg_sl [.ref mo, .int x, .int w]).length) Slot.unset).toArray = ls at hl ⊢
  have hl : lv_has ls 3 [(0, .ref mo), (1, .int x), (2, .int w)] := hl
  obtain ⟨A, hAe⟩ : ∃ A, A = (fr (List.map Prod.fst [(mo, oM MF g0 t0 z0), (g0, aI cI 39 g), (t0, aI cI 174 (tab tv))])) := ⟨_, rfl⟩
  have hA0 : ∀ q ∈ List.map Prod.fst [(mo, oM MF g0 t0 z0), (g0, aI cI 39 g), (t0, aI cI 174 (tab tv))], A q := by rw [hAe]; exact fun q h => h
  have hD : va_D A [(mo, oM MF g0 t0 z0), (g0, aI cI 39 g), (t0, aI cI 174 (tab tv))] := sp_D (List.nodup_append.mp (show (([(mo, oM MF g0 t0 z0), (g0, aI cI 39 g), (t0, aI cI 174 (tab tv))] : va_W).map Prod.fst ++ ([] : va_W).map Prod.fst).Nodup by rw [← List.map_append]; exact hN)).1 hA0
  have hN : (List.map Prod.fst ([(mo, oM MF g0 t0 z0), (g0, aI cI 39 g), (t0, aI cI 174 (tab tv))] ++ []) : List Nat).Nodup := hN
  have hS : va_S A s.heap s.heap [] := va_S.rf
  obtain ⟨H, hH0⟩ : ∃ H, H = s.heap := ⟨_, rfl⟩
  obtain ⟨locs, hlo⟩ : ∃ L : List Loc, L = [] := ⟨_, rfl⟩
  have hP : va_P D vwCl [(mo, oM MF g0 t0 z0), (g0, aI cI 39 g), (t0, aI cI 174 (tab tv))] H := by rw [hH0]; exact hP
  have hS : va_S A s.heap H locs := by rw [hH0, hlo]; exact hS
  rw [show W p l e rmX3_next s m args below meth c s.heap [] 0 0 Q (F0 m 0 ls []) = W p l e rmX3_next s m args below meth c H locs 0 0 Q (F0 m 0 ls []) by rw [hH0, hlo]]
  clear hH0 hlo
  refine lv_aload_n hx hb dX3_next_0 rfl (lv_at hl 0 rfl) ?_
  refine lv_iconst (v := 0) hx hb dX3_next_1 (by decide) ?_
  refine va_put (D := D) (ci := 3) (v := .int 0) (ty := .int) (C := RX3) (T := TX3) (N := 9) hx hb hts hiX3 tyX3 tyX3_ok nmX3 hown hK.1 hP hD hS 0 rfl rfl 0 (by decide) (hts (.fieldLink RX3 26 "SledgeRaceModel" "thrown" "I") (by decide +kernel)) (fun _ h9 => h9) rfl (by decide +kernel) rfl rfl (Nat.le_of_ble_eq_true rfl) dX3_next_2 (fun H locs hP hD hS => ?_)
  have hP : va_P D vwCl [(mo, oM (upd MF 0 0) g0 t0 z0), (g0, aI cI 39 g), (t0, aI cI 174 (tab tv))] H := hP
  have hD : va_D A [(mo, oM (upd MF 0 0) g0 t0 z0), (g0, aI cI 39 g), (t0, aI cI 174 (tab tv))] := hD
  refine lv_aload_n hx hb dX3_next_5 rfl (lv_at hl 0 rfl) ?_
  refine lv_iload_n hx hb dX3_next_6 rfl (lv_at hl 1 rfl) ?_
  refine sp_rV (rest := []) (As := [.int x]) ⟨hx, hb, hml, hown, hts⟩ (mX3_isTeam l D cI cT mo g0 t0 z0 (upd MF 0 0) x) (cwV 1 hts gX3_next_X3_isTeam rfl rfl rfl (by decide +kernel) ⟨Nat.le_of_ble_eq_true rfl, Nat.le_of_ble_eq_true rfl⟩) hK (sp_pick hP [0] rfl) (ci := 3) rfl rfl rfl rfl hl.1 rfl (Nat.le_of_ble_eq_true rfl) dX3_next_7 ⟨Nat.le_of_ble_eq_true rfl, Nat.le_of_ble_eq_true rfl⟩ ?_
  refine sp_top (show bI (isIn x 0 ((upd MF 0 0) 2 - 1)) = bI (isIn x 0 (MF 2 - 1)) from rfl) ?_
  refine sp_if_eq (tgt := 22) hx hb dX3_next_10 (by decide) (fun c10 => ?_) (fun c10 => ?_)
  · skip
    refine lv_aload_n hx hb dX3_next_22 rfl (lv_at hl 0 rfl) ?_
    refine lv_iconst (v := 1) hx hb dX3_next_23 (by decide) ?_
    refine sp_vI (rest := []) (As := [.int 1]) (W1 := [(mo, oM (upd (upd MF 0 0) 0 1) g0 t0 z0), (g0, aI cI 39 g), (t0, aI cI 174 (tab tv))]) ⟨hx, hb, hml, hown, hts⟩ (mX3_fail l D cI cT mo g0 t0 z0 (upd MF 0 0) 1) (cwV 1 hts gX3_next_X3_fail rfl rfl rfl (by decide +kernel) ⟨Nat.le_of_ble_eq_true rfl, Nat.le_of_ble_eq_true rfl⟩) hK hP hD hS [0] rfl (fun k q h => by simp at h) (sp_nsub hN [0] (by decide) rfl) rfl rfl rfl (ci := 3) rfl rfl rfl rfl hl.1 rfl (Nat.le_of_ble_eq_true rfl) dX3_next_24 ⟨Nat.le_of_ble_eq_true rfl, Nat.le_of_ble_eq_true rfl⟩ (fun H locs hP hD hS => ?_)
    have eq9 : (mNextC x w MF g ns tv) = (0, upd MF 0 1) := by unfold mNextC; rw [if_neg (by simp [c10])]
    refine sp_top (show 0 = (mNextC x w MF g ns tv).1 from by rw [eq9]) ?_
    subst hQ
    have hP9 : va_P D vwCl [(mo, oM (mNextC x w MF g ns tv).2 g0 t0 z0), (g0, aI cI 39 g), (t0, aI cI 174 (tab tv))] H := by rw [eq9]; exact hP
    subst hAe
    exact W.iret hx hb hr (fun t ht hW => ⟨⟨_, (), rfl, rfl, by show va_P D vwCl _ t.heap; rw [ht]; exact hP9⟩, hS.F ht⟩) hS.2.2 dX3_next_27
  · skip
    obtain ⟨i, hi, rfl⟩ := isIn_nat (b := nt) (by omega) (show isIn x 0 (nI nt - 1) = true from by rw [← ht]; exact c10)
    refine lv_iload_n hx hb dX3_next_13 rfl (lv_at hl 2 rfl) ?_
    refine lv_iconst (v := 0) hx hb dX3_next_14 (by decide) ?_
    refine lv_iconst (v := 2) hx hb dX3_next_15 (by decide) ?_
    refine sp_rS (rest := []) (As := [.int w, .int 0, .int 2]) ⟨hx, hb, hml, hown, hts⟩ (mX3_isIn l D cI cT w 0 2) (va_cwS 3 hts gX3_next_X3_isIn rfl rfl rfl (by decide +kernel) ⟨Nat.le_of_ble_eq_true rfl, Nat.le_of_ble_eq_true rfl⟩) hK (show va_P D vwCl [] _ from fun k q h => by simp at h) rfl hl.1 rfl (Nat.le_of_ble_eq_true rfl) dX3_next_16 ⟨Nat.le_of_ble_eq_true rfl, Nat.le_of_ble_eq_true rfl⟩ ?_
    refine sp_if_ne (tgt := 28) hx hb dX3_next_19 (by decide) (fun c19 => ?_) (fun c19 => ?_)
    · skip
      refine lv_iload_n hx hb dX3_next_28 rfl (lv_at hl 2 rfl) ?_
      refine lv_if_ne (tgt := 40) hx hb dX3_next_29 (by decide) (fun c29 => ?_) (fun c29 => ?_)
      · skip
        refine lv_iload_n hx hb dX3_next_40 rfl (lv_at hl 2 rfl) ?_
        refine lv_iconst (v := 1) hx hb dX3_next_41 (by decide) ?_
        refine lv_icmp_ne (tgt := 53) hx hb dX3_next_42 (by decide) (fun c42 => ?_) (fun c42 => ?_)
        · skip
          refine lv_aload_n hx hb dX3_next_53 rfl (lv_at hl 0 rfl) ?_
          refine lv_iload_n hx hb dX3_next_54 rfl (lv_at hl 1 rfl) ?_
          refine sp_rV (rest := []) (As := [.int (nI i)]) ⟨hx, hb, hml, hown, hts⟩ (mX3_way l D cI cT mo g0 t0 z0 (upd MF 0 0) g tv i (by omega) ((tv i).1) ((tv i).2.1) ((tv i).2.2.1) ((tv i).2.2.2) (rfl) (mN (tv i)) (hok i hi).n.1 (hok i hi).n.2 ns hns0 hns h5 (hok i hi).2.2.1) (cwV 1 hts gX3_next_X3_way rfl rfl rfl (by decide +kernel) ⟨Nat.le_of_ble_eq_true rfl, Nat.le_of_ble_eq_true rfl⟩) hK (sp_pick hP [0, 1, 2] rfl) (ci := 3) rfl rfl rfl rfl hl.1 rfl (Nat.le_of_ble_eq_true rfl) dX3_next_55 ⟨Nat.le_of_ble_eq_true rfl, Nat.le_of_ble_eq_true rfl⟩ ?_
          have eq9 : (mNextC (nI i) w MF g ns tv) = (mWay ((tv i).1) ((tv i).2.1) ((tv i).2.2.1) (mN (tv i)) g ns, upd MF 0 0) := by unfold mNextC; rw [if_pos (by rw [c10, c19]; rfl), nI_clamp (by omega), if_neg c29, if_neg c42]
          refine sp_top (show mWay ((tv i).1) ((tv i).2.1) ((tv i).2.2.1) (mN (tv i)) g ns = (mNextC (nI i) w MF g ns tv).1 from by rw [eq9]) ?_
          subst hQ
          have hP9 : va_P D vwCl [(mo, oM (mNextC (nI i) w MF g ns tv).2 g0 t0 z0), (g0, aI cI 39 g), (t0, aI cI 174 (tab tv))] H := by rw [eq9]; exact hP
          subst hAe
          exact W.iret hx hb hr (fun t ht hW => ⟨⟨_, (), rfl, rfl, by show va_P D vwCl _ t.heap; rw [ht]; exact hP9⟩, hS.F ht⟩) hS.2.2 dX3_next_58
        · skip
          refine lv_aload_n hx hb dX3_next_45 rfl (lv_at hl 0 rfl) ?_
          refine lv_iload_n hx hb dX3_next_46 rfl (lv_at hl 1 rfl) ?_
          refine sp_rV (rest := []) (As := [.int (nI i)]) ⟨hx, hb, hml, hown, hts⟩ (mX3_drag l D cI cT mo g0 t0 z0 (upd MF 0 0) g tv i (by omega) ((tv i).1) ((tv i).2.1) ((tv i).2.2.1) ((tv i).2.2.2) (rfl) (mN (tv i)) (hok i hi).n.1 (hok i hi).n.2 ns hns0 hns h5) (cwV 1 hts gX3_next_X3_drag rfl rfl rfl (by decide +kernel) ⟨Nat.le_of_ble_eq_true rfl, Nat.le_of_ble_eq_true rfl⟩) hK (sp_pick hP [0, 1, 2] rfl) (ci := 3) rfl rfl rfl rfl hl.1 rfl (Nat.le_of_ble_eq_true rfl) dX3_next_47 ⟨Nat.le_of_ble_eq_true rfl, Nat.le_of_ble_eq_true rfl⟩ ?_
          refine lv_goto (tgt := 58) hx hb dX3_next_50 (by decide) ?_
          have eq9 : (mNextC (nI i) w MF g ns tv) = (mDrag ((tv i).1) ((tv i).2.1) ((tv i).2.2.1) (mN (tv i)) g ns, upd MF 0 0) := by unfold mNextC; rw [if_pos (by rw [c10, c19]; rfl), nI_clamp (by omega), if_neg c29, if_pos c42]
          refine sp_top (show mDrag ((tv i).1) ((tv i).2.1) ((tv i).2.2.1) (mN (tv i)) g ns = (mNextC (nI i) w MF g ns tv).1 from by rw [eq9]) ?_
          subst hQ
          have hP9 : va_P D vwCl [(mo, oM (mNextC (nI i) w MF g ns tv).2 g0 t0 z0), (g0, aI cI 39 g), (t0, aI cI 174 (tab tv))] H := by rw [eq9]; exact hP
          subst hAe
          exact W.iret hx hb hr (fun t ht hW => ⟨⟨_, (), rfl, rfl, by show va_P D vwCl _ t.heap; rw [ht]; exact hP9⟩, hS.F ht⟩) hS.2.2 dX3_next_58
      · skip
        refine lv_aload_n hx hb dX3_next_32 rfl (lv_at hl 0 rfl) ?_
        refine lv_iload_n hx hb dX3_next_33 rfl (lv_at hl 1 rfl) ?_
        refine sp_rV (rest := []) (As := [.int (nI i)]) ⟨hx, hb, hml, hown, hts⟩ (mX3_pull l D cI cT mo g0 t0 z0 (upd MF 0 0) tv i (by omega) ((tv i).1) ((tv i).2.1) ((tv i).2.2.1) ((tv i).2.2.2) (rfl) ) (cwV 1 hts gX3_next_X3_pull rfl rfl rfl (by decide +kernel) ⟨Nat.le_of_ble_eq_true rfl, Nat.le_of_ble_eq_true rfl⟩) hK (sp_pick hP [0, 2] rfl) (ci := 3) rfl rfl rfl rfl hl.1 rfl (Nat.le_of_ble_eq_true rfl) dX3_next_34 ⟨Nat.le_of_ble_eq_true rfl, Nat.le_of_ble_eq_true rfl⟩ ?_
        refine lv_goto (tgt := 58) hx hb dX3_next_37 (by decide) ?_
        have eq9 : (mNextC (nI i) w MF g ns tv) = (mPull ((tv i).1), upd MF 0 0) := by unfold mNextC; rw [if_pos (by rw [c10, c19]; rfl), nI_clamp (by omega), if_pos c29]
        refine sp_top (show mPull ((tv i).1) = (mNextC (nI i) w MF g ns tv).1 from by rw [eq9]) ?_
        subst hQ
        have hP9 : va_P D vwCl [(mo, oM (mNextC (nI i) w MF g ns tv).2 g0 t0 z0), (g0, aI cI 39 g), (t0, aI cI 174 (tab tv))] H := by rw [eq9]; exact hP
        subst hAe
        exact W.iret hx hb hr (fun t ht hW => ⟨⟨_, (), rfl, rfl, by show va_P D vwCl _ t.heap; rw [ht]; exact hP9⟩, hS.F ht⟩) hS.2.2 dX3_next_58
    · skip
      refine lv_aload_n hx hb dX3_next_22 rfl (lv_at hl 0 rfl) ?_
      refine lv_iconst (v := 1) hx hb dX3_next_23 (by decide) ?_
      refine sp_vI (rest := []) (As := [.int 1]) (W1 := [(mo, oM (upd (upd MF 0 0) 0 1) g0 t0 z0), (g0, aI cI 39 g), (t0, aI cI 174 (tab tv))]) ⟨hx, hb, hml, hown, hts⟩ (mX3_fail l D cI cT mo g0 t0 z0 (upd MF 0 0) 1) (cwV 1 hts gX3_next_X3_fail rfl rfl rfl (by decide +kernel) ⟨Nat.le_of_ble_eq_true rfl, Nat.le_of_ble_eq_true rfl⟩) hK hP hD hS [0] rfl (fun k q h => by simp at h) (sp_nsub hN [0] (by decide) rfl) rfl rfl rfl (ci := 3) rfl rfl rfl rfl hl.1 rfl (Nat.le_of_ble_eq_true rfl) dX3_next_24 ⟨Nat.le_of_ble_eq_true rfl, Nat.le_of_ble_eq_true rfl⟩ (fun H locs hP hD hS => ?_)
      have eq9 : (mNextC (nI i) w MF g ns tv) = (0, upd MF 0 1) := by unfold mNextC; rw [if_neg (by simp [c19])]
      refine sp_top (show 0 = (mNextC (nI i) w MF g ns tv).1 from by rw [eq9]) ?_
      subst hQ
      have hP9 : va_P D vwCl [(mo, oM (mNextC (nI i) w MF g ns tv).2 g0 t0 z0), (g0, aI cI 39 g), (t0, aI cI 174 (tab tv))] H := by rw [eq9]; exact hP
      subst hAe
      exact W.iret hx hb hr (fun t ht hW => ⟨⟨_, (), rfl, rfl, by show va_P D vwCl _ t.heap; rw [ht]; exact hP9⟩, hS.F ht⟩) hS.2.2 dX3_next_27

abbrev rmX3_ranked : Room := { frames := 4, cells := 0, slots := 0, locals := 91 }
set_option maxHeartbeats 4000000 in
set_option maxRecDepth 100000 in
/-- ranked -/
theorem mX3_ranked (l : Launch) (D : va_G) (cI cT : ClassId) (mo g0 t0 z0 : Nat) (MF : Nat → Int32) (tv : Nat → TV) (x : Int32) (nt : Nat) (hnt : nt ≤ 6) (ht : MF 2 = nI nt) : MetI l D cI cT yX3_ranked wsX3_ranked rmX3_ranked [.ref mo, .int x] [(mo, oM MF g0 t0 z0), (t0, aI cI 174 (tab tv))] [] [(mo, oM (mRankedC x MF tv nt).2 g0 t0 z0), (t0, aI cI 174 (tab tv))] ((mRankedC x MF tv nt).1) := by
  refine Met.ofW (cc := cX3_ranked) (maxL := 2) (ret := (some .int)) (by decide) rfl ?_
  intro p e s m args below meth c s₁ B hml hv
  obtain ⟨hargs, hP, hR0, hK, hN⟩ := hv
  have hx := B.exec
  have hb := B.bytes
  have hr := B.returns
  have hts := atoms_spec (ws := wsX3_ranked) B.pre
  have hown : s.vm.findClass RX3 = some m.cls := findClass_of_methodNamed B.named
  have hlocks := B.notSynchronized
  have hiX3 : ∀ w ∈ u_ws RX3 TX3 9, w ∈ wsX3_ranked := by decide +kernel
  have he : entryFrame m args 2 = F0 m 0 ((lg_sl [.ref mo, .int x] ++ List.replicate (2 - (lg_sl [.ref mo, .int x]).length) Slot.unset).toArray) [] := by rw [hargs]; exact lg_entry_eq m _ _
  rw [he]
  change W p l e rmX3_ranked s m args below meth c s.heap [] 0 0 (MQ below (va_Qi (S := Unit) (fun z _ => z = (mRankedC x MF tv nt).1) (fun _ t => va_P D vwCl [(mo, oM (mRankedC x MF tv nt).2 g0 t0 z0), (t0, aI cI 174 (tab tv))] t.heap) (fr (List.map Prod.fst [(mo, oM MF g0 t0 z0), (t0, aI cI 174 (tab tv))]))) args s 0 0 (fr (List.map Prod.fst [(mo, oM MF g0 t0 z0), (t0, aI cI 174 (tab tv))]))) _
  obtain ⟨Q, hQ⟩ : ∃ Q, Q = MQ below (va_Qi (S := Unit) (fun z _ => z = (mRankedC x MF tv nt).1) (fun _ t => va_P D vwCl [(mo, oM (mRankedC x MF tv nt).2 g0 t0 z0), (t0, aI cI 174 (tab tv))] t.heap) (fr (List.map Prod.fst [(mo, oM MF g0 t0 z0), (t0, aI cI 174 (tab tv))]))) args s 0 0 (fr (List.map Prod.fst [(mo, oM MF g0 t0 z0), (t0, aI cI 174 (tab tv))])) := ⟨_, rfl⟩
  rw [← hQ]
  have hl := lv_entry [.ref mo, .int x] (n := 2) (Nat.le_of_ble_eq_true rfl)
  generalize (lg_sl [.ref mo, .int x] ++ List.replicate (2 - (lg_sl [.ref mo, .int x]).length) Slot.unset).toArray = ls at hl ⊢
  have hl : lv_has ls 2 [(0, .ref mo), (1, .int x)] := hl
  obtain ⟨A, hAe⟩ : ∃ A, A = (fr (List.map Prod.fst [(mo, oM MF g0 t0 z0), (t0, aI cI 174 (tab tv))])) := ⟨_, rfl⟩
  have hA0 : ∀ q ∈ List.map Prod.fst [(mo, oM MF g0 t0 z0), (t0, aI cI 174 (tab tv))], A q := by rw [hAe]; exact fun q h => h
  have hD : va_D A [(mo, oM MF g0 t0 z0), (t0, aI cI 174 (tab tv))] := sp_D (List.nodup_append.mp (show (([(mo, oM MF g0 t0 z0), (t0, aI cI 174 (tab tv))] : va_W).map Prod.fst ++ ([] : va_W).map Prod.fst).Nodup by rw [← List.map_append]; exact hN)).1 hA0
  have hN : (List.map Prod.fst ([(mo, oM MF g0 t0 z0), (t0, aI cI 174 (tab tv))] ++ []) : List Nat).Nodup := hN
  have hS : va_S A s.heap s.heap [] := va_S.rf
  obtain ⟨H, hH0⟩ : ∃ H, H = s.heap := ⟨_, rfl⟩
  obtain ⟨locs, hlo⟩ : ∃ L : List Loc, L = [] := ⟨_, rfl⟩
  have hP : va_P D vwCl [(mo, oM MF g0 t0 z0), (t0, aI cI 174 (tab tv))] H := by rw [hH0]; exact hP
  have hS : va_S A s.heap H locs := by rw [hH0, hlo]; exact hS
  rw [show W p l e rmX3_ranked s m args below meth c s.heap [] 0 0 Q (F0 m 0 ls []) = W p l e rmX3_ranked s m args below meth c H locs 0 0 Q (F0 m 0 ls []) by rw [hH0, hlo]]
  clear hH0 hlo
  refine lv_aload_n hx hb dX3_ranked_0 rfl (lv_at hl 0 rfl) ?_
  refine lv_iconst (v := 0) hx hb dX3_ranked_1 (by decide) ?_
  refine va_put (D := D) (ci := 3) (v := .int 0) (ty := .int) (C := RX3) (T := TX3) (N := 9) hx hb hts hiX3 tyX3 tyX3_ok nmX3 hown hK.1 hP hD hS 0 rfl rfl 0 (by decide) (hts (.fieldLink RX3 26 "SledgeRaceModel" "thrown" "I") (by decide +kernel)) (fun _ h9 => h9) rfl (by decide +kernel) rfl rfl (Nat.le_of_ble_eq_true rfl) dX3_ranked_2 (fun H locs hP hD hS => ?_)
  have hP : va_P D vwCl [(mo, oM (upd MF 0 0) g0 t0 z0), (t0, aI cI 174 (tab tv))] H := hP
  have hD : va_D A [(mo, oM (upd MF 0 0) g0 t0 z0), (t0, aI cI 174 (tab tv))] := hD
  refine lv_iload_n hx hb dX3_ranked_5 rfl (lv_at hl 1 rfl) ?_
  refine lv_iconst (v := 0) hx hb dX3_ranked_6 (by decide) ?_
  refine lv_aload_n hx hb dX3_ranked_7 rfl (lv_at hl 0 rfl) ?_
  refine va_get (D := D) (ci := 3) (v := .int (nI nt)) (C := RX3) (T := TX3) (N := 9) hx hb hts hiX3 hown hK.1 hP 0 rfl rfl 2 (by decide) (hts (.fieldLink RX3 29 "SledgeRaceModel" "teams" "I") (by decide +kernel)) (fun _ h9 => h9) (congrArg (fun z => some (Value.int z)) ht) dX3_ranked_8 ?_
  refine lv_iconst (v := 1) hx hb dX3_ranked_11 (by decide) ?_
  refine lv_isub hx hb dX3_ranked_12 ?_
  refine sp_rS (rest := []) (As := [.int x, .int 0, .int ((nI nt) - 1)]) ⟨hx, hb, hml, hown, hts⟩ (mX3_isIn l D cI cT x 0 ((nI nt) - 1)) (va_cwS 3 hts gX3_ranked_X3_isIn rfl rfl rfl (by decide +kernel) ⟨Nat.le_of_ble_eq_true rfl, Nat.le_of_ble_eq_true rfl⟩) hK (show va_P D vwCl [] _ from fun k q h => by simp at h) rfl hl.1 rfl (Nat.le_of_ble_eq_true rfl) dX3_ranked_13 ⟨Nat.le_of_ble_eq_true rfl, Nat.le_of_ble_eq_true rfl⟩ ?_
  refine sp_if_eq (tgt := 27) hx hb dX3_ranked_16 (by decide) (fun c16 => ?_) (fun c16 => ?_)
  · skip
    refine lv_aload_n hx hb dX3_ranked_27 rfl (lv_at hl 0 rfl) ?_
    refine lv_iconst (v := 1) hx hb dX3_ranked_28 (by decide) ?_
    refine sp_vI (rest := []) (As := [.int 1]) (W1 := [(mo, oM (upd (upd MF 0 0) 0 1) g0 t0 z0), (t0, aI cI 174 (tab tv))]) ⟨hx, hb, hml, hown, hts⟩ (mX3_fail l D cI cT mo g0 t0 z0 (upd MF 0 0) 1) (cwV 1 hts gX3_ranked_X3_fail rfl rfl rfl (by decide +kernel) ⟨Nat.le_of_ble_eq_true rfl, Nat.le_of_ble_eq_true rfl⟩) hK hP hD hS [0] rfl (fun k q h => by simp at h) (sp_nsub hN [0] (by decide) rfl) rfl rfl rfl (ci := 3) rfl rfl rfl rfl hl.1 rfl (Nat.le_of_ble_eq_true rfl) dX3_ranked_29 ⟨Nat.le_of_ble_eq_true rfl, Nat.le_of_ble_eq_true rfl⟩ (fun H locs hP hD hS => ?_)
    have eq9 : (mRankedC x MF tv nt) = (0, upd MF 0 1) := by unfold mRankedC; rw [if_neg (by rw [ht, c16]; decide)]
    refine sp_top (show 0 = (mRankedC x MF tv nt).1 from by rw [eq9]) ?_
    subst hQ
    have hP9 : va_P D vwCl [(mo, oM (mRankedC x MF tv nt).2 g0 t0 z0), (t0, aI cI 174 (tab tv))] H := by rw [eq9]; exact hP
    subst hAe
    exact W.iret hx hb hr (fun t ht hW => ⟨⟨_, (), rfl, rfl, by show va_P D vwCl _ t.heap; rw [ht]; exact hP9⟩, hS.F ht⟩) hS.2.2 dX3_ranked_32
  · skip
    have c16b : isIn x 0 (MF 2 - 1) = true := by rw [ht]; exact c16
    obtain ⟨i, hi, rfl⟩ := isIn_nat (b := nt) (by omega) c16
    obtain ⟨j, hj, ej⟩ := mRank_at tv hi
    refine lv_aload_n hx hb dX3_ranked_19 rfl (lv_at hl 0 rfl) ?_
    refine lv_iload_n hx hb dX3_ranked_20 rfl (lv_at hl 1 rfl) ?_
    refine sp_rV (rest := []) (As := [.int (nI i)]) ⟨hx, hb, hml, hown, hts⟩ (mX3_teamAt l D cI cT mo g0 t0 z0 (upd MF 0 0) tv (nI i) nt hnt ht j hj (congrArg nI ej)) (cwV 1 hts gX3_ranked_X3_teamAt rfl rfl rfl (by decide +kernel) ⟨Nat.le_of_ble_eq_true rfl, Nat.le_of_ble_eq_true rfl⟩) hK (sp_pick hP [0, 1] rfl) (ci := 3) rfl rfl rfl rfl hl.1 rfl (Nat.le_of_ble_eq_true rfl) dX3_ranked_21 ⟨Nat.le_of_ble_eq_true rfl, Nat.le_of_ble_eq_true rfl⟩ ?_
    refine lv_goto (tgt := 32) hx hb dX3_ranked_24 (by decide) ?_
    have eq9 : (mRankedC (nI i) MF tv nt) = (nI (mAt tv nt (nI i)), upd MF 0 0) := by unfold mRankedC; rw [if_pos c16b]
    refine sp_top (show nI (mAt tv nt (nI i)) = (mRankedC (nI i) MF tv nt).1 from by rw [eq9]) ?_
    subst hQ
    have hP9 : va_P D vwCl [(mo, oM (mRankedC (nI i) MF tv nt).2 g0 t0 z0), (t0, aI cI 174 (tab tv))] H := by rw [eq9]; exact hP
    subst hAe
    exact W.iret hx hb hr (fun t ht hW => ⟨⟨_, (), rfl, rfl, by show va_P D vwCl _ t.heap; rw [ht]; exact hP9⟩, hS.F ht⟩) hS.2.2 dX3_ranked_32

abbrev rmX3_foresee : Room := { frames := 9, cells := 0, slots := 0, locals := 205 }
set_option maxHeartbeats 4000000 in
set_option maxRecDepth 100000 in
/-- foresee -/
theorem mX3_foresee (l : Launch) (D : va_G) (cI cT : ClassId) (mo g0 t0 z0 : Nat) (MF : Nat → Int32) (g : Nat → Int32) (tv : Nat → TV) (z : Nat → Int32) (x y w : Int32) (ns : Nat) (hns0 : 0 < ns) (hns : ns ≤ 12) (h5 : MF 5 = nI ns) (nt : Nat) (hnt : nt ≤ 6) (ht : MF 2 = nI nt) (hok : ∀ t, t < nt → mOK (tv t)) : MetI l D cI cT yX3_foresee wsX3_foresee rmX3_foresee [.ref mo, .int x, .int y, .int w] [(mo, oM MF g0 t0 z0), (g0, aI cI 39 g), (t0, aI cI 174 (tab tv)), (z0, aI cI 174 z)] [] [(mo, oM (mSeeC x y w MF g ns nt tv).2 g0 t0 z0), (g0, aI cI 39 g), (t0, aI cI 174 (tab tv)), (z0, aI cI 174 (mSeeZ x y w MF tv z))] ((mSeeC x y w MF g ns nt tv).1) := by
  refine Met.ofW (cc := cX3_foresee) (maxL := 7) (ret := (some .int)) (by decide) rfl ?_
  intro p e s m args below meth c s₁ B hml hv
  obtain ⟨hargs, hP, hR0, hK, hN⟩ := hv
  have hx := B.exec
  have hb := B.bytes
  have hr := B.returns
  have hts := atoms_spec (ws := wsX3_foresee) B.pre
  have hown : s.vm.findClass RX3 = some m.cls := findClass_of_methodNamed B.named
  have hlocks := B.notSynchronized
  have hiX3 : ∀ w ∈ u_ws RX3 TX3 9, w ∈ wsX3_foresee := by decide +kernel
  have he : entryFrame m args 7 = F0 m 0 ((lg_sl [.ref mo, .int x, .int y, .int w] ++ List.replicate (7 - (lg_sl [.ref mo, .int x, .int y, .int w]).length) Slot.unset).toArray) [] := by rw [hargs]; exact lg_entry_eq m _ _
  rw [he]
  change W p l e rmX3_foresee s m args below meth c s.heap [] 0 0 (MQ below (va_Qi (S := Unit) (fun z _ => z = (mSeeC x y w MF g ns nt tv).1) (fun _ t => va_P D vwCl [(mo, oM (mSeeC x y w MF g ns nt tv).2 g0 t0 z0), (g0, aI cI 39 g), (t0, aI cI 174 (tab tv)), (z0, aI cI 174 (mSeeZ x y w MF tv z))] t.heap) (fr (List.map Prod.fst [(mo, oM MF g0 t0 z0), (g0, aI cI 39 g), (t0, aI cI 174 (tab tv)), (z0, aI cI 174 z)]))) args s 0 0 (fr (List.map Prod.fst [(mo, oM MF g0 t0 z0), (g0, aI cI 39 g), (t0, aI cI 174 (tab tv)), (z0, aI cI 174 z)]))) _
  obtain ⟨Q, hQ⟩ : ∃ Q, Q = MQ below (va_Qi (S := Unit) (fun z _ => z = (mSeeC x y w MF g ns nt tv).1) (fun _ t => va_P D vwCl [(mo, oM (mSeeC x y w MF g ns nt tv).2 g0 t0 z0), (g0, aI cI 39 g), (t0, aI cI 174 (tab tv)), (z0, aI cI 174 (mSeeZ x y w MF tv z))] t.heap) (fr (List.map Prod.fst [(mo, oM MF g0 t0 z0), (g0, aI cI 39 g), (t0, aI cI 174 (tab tv)), (z0, aI cI 174 z)]))) args s 0 0 (fr (List.map Prod.fst [(mo, oM MF g0 t0 z0), (g0, aI cI 39 g), (t0, aI cI 174 (tab tv)), (z0, aI cI 174 z)])) := ⟨_, rfl⟩
  rw [← hQ]
  have hl := lv_entry [.ref mo, .int x, .int y, .int w] (n := 7) (Nat.le_of_ble_eq_true rfl)
  generalize (lg_sl [.ref mo, .int x, .int y, .int w] ++ List.replicate (7 - (lg_sl [.ref mo, .int x, .int y, .int w]).length) Slot.unset).toArray = ls at hl ⊢
  have hl : lv_has ls 7 [(0, .ref mo), (1, .int x), (2, .int y), (3, .int w)] := hl
  obtain ⟨A, hAe⟩ : ∃ A, A = (fr (List.map Prod.fst [(mo, oM MF g0 t0 z0), (g0, aI cI 39 g), (t0, aI cI 174 (tab tv)), (z0, aI cI 174 z)])) := ⟨_, rfl⟩
  have hA0 : ∀ q ∈ List.map Prod.fst [(mo, oM MF g0 t0 z0), (g0, aI cI 39 g), (t0, aI cI 174 (tab tv)), (z0, aI cI 174 z)], A q := by rw [hAe]; exact fun q h => h
  have hD : va_D A [(mo, oM MF g0 t0 z0), (g0, aI cI 39 g), (t0, aI cI 174 (tab tv)), (z0, aI cI 174 z)] := sp_D (List.nodup_append.mp (show (([(mo, oM MF g0 t0 z0), (g0, aI cI 39 g), (t0, aI cI 174 (tab tv)), (z0, aI cI 174 z)] : va_W).map Prod.fst ++ ([] : va_W).map Prod.fst).Nodup by rw [← List.map_append]; exact hN)).1 hA0
  have hN : (List.map Prod.fst ([(mo, oM MF g0 t0 z0), (g0, aI cI 39 g), (t0, aI cI 174 (tab tv)), (z0, aI cI 174 z)] ++ []) : List Nat).Nodup := hN
  have hS : va_S A s.heap s.heap [] := va_S.rf
  obtain ⟨H, hH0⟩ : ∃ H, H = s.heap := ⟨_, rfl⟩
  obtain ⟨locs, hlo⟩ : ∃ L : List Loc, L = [] := ⟨_, rfl⟩
  have hP : va_P D vwCl [(mo, oM MF g0 t0 z0), (g0, aI cI 39 g), (t0, aI cI 174 (tab tv)), (z0, aI cI 174 z)] H := by rw [hH0]; exact hP
  have hS : va_S A s.heap H locs := by rw [hH0, hlo]; exact hS
  rw [show W p l e rmX3_foresee s m args below meth c s.heap [] 0 0 Q (F0 m 0 ls []) = W p l e rmX3_foresee s m args below meth c H locs 0 0 Q (F0 m 0 ls []) by rw [hH0, hlo]]
  clear hH0 hlo
  refine lv_aload_n hx hb dX3_foresee_0 rfl (lv_at hl 0 rfl) ?_
  refine lv_iconst (v := 0) hx hb dX3_foresee_1 (by decide) ?_
  refine va_put (D := D) (ci := 3) (v := .int 0) (ty := .int) (C := RX3) (T := TX3) (N := 9) hx hb hts hiX3 tyX3 tyX3_ok nmX3 hown hK.1 hP hD hS 0 rfl rfl 0 (by decide) (hts (.fieldLink RX3 26 "SledgeRaceModel" "thrown" "I") (by decide +kernel)) (fun _ h9 => h9) rfl (by decide +kernel) rfl rfl (Nat.le_of_ble_eq_true rfl) dX3_foresee_2 (fun H locs hP hD hS => ?_)
  have hP : va_P D vwCl [(mo, oM (upd MF 0 0) g0 t0 z0), (g0, aI cI 39 g), (t0, aI cI 174 (tab tv)), (z0, aI cI 174 z)] H := hP
  have hD : va_D A [(mo, oM (upd MF 0 0) g0 t0 z0), (g0, aI cI 39 g), (t0, aI cI 174 (tab tv)), (z0, aI cI 174 z)] := hD
  refine lv_aload_n hx hb dX3_foresee_5 rfl (lv_at hl 0 rfl) ?_
  refine lv_iload_n hx hb dX3_foresee_6 rfl (lv_at hl 1 rfl) ?_
  refine sp_rV (rest := []) (As := [.int x]) ⟨hx, hb, hml, hown, hts⟩ (mX3_isTeam l D cI cT mo g0 t0 z0 (upd MF 0 0) x) (cwV 1 hts gX3_foresee_X3_isTeam rfl rfl rfl (by decide +kernel) ⟨Nat.le_of_ble_eq_true rfl, Nat.le_of_ble_eq_true rfl⟩) hK (sp_pick hP [0] rfl) (ci := 3) rfl rfl rfl rfl hl.1 rfl (Nat.le_of_ble_eq_true rfl) dX3_foresee_7 ⟨Nat.le_of_ble_eq_true rfl, Nat.le_of_ble_eq_true rfl⟩ ?_
  refine sp_top (show bI (isIn x 0 ((upd MF 0 0) 2 - 1)) = bI (isIn x 0 (MF 2 - 1)) from rfl) ?_
  refine sp_if_eq (tgt := 22) hx hb dX3_foresee_10 (by decide) (fun c10 => ?_) (fun c10 => ?_)
  · skip
    refine lv_aload_n hx hb dX3_foresee_22 rfl (lv_at hl 0 rfl) ?_
    refine lv_iconst (v := 1) hx hb dX3_foresee_23 (by decide) ?_
    refine sp_vI (rest := []) (As := [.int 1]) (W1 := [(mo, oM (upd (upd MF 0 0) 0 1) g0 t0 z0), (g0, aI cI 39 g), (t0, aI cI 174 (tab tv)), (z0, aI cI 174 z)]) ⟨hx, hb, hml, hown, hts⟩ (mX3_fail l D cI cT mo g0 t0 z0 (upd MF 0 0) 1) (cwV 1 hts gX3_foresee_X3_fail rfl rfl rfl (by decide +kernel) ⟨Nat.le_of_ble_eq_true rfl, Nat.le_of_ble_eq_true rfl⟩) hK hP hD hS [0] rfl (fun k q h => by simp at h) (sp_nsub hN [0] (by decide) rfl) rfl rfl rfl (ci := 3) rfl rfl rfl rfl hl.1 rfl (Nat.le_of_ble_eq_true rfl) dX3_foresee_24 ⟨Nat.le_of_ble_eq_true rfl, Nat.le_of_ble_eq_true rfl⟩ (fun H locs hP hD hS => ?_)
    have eq9 : (mSeeC x y w MF g ns nt tv) = (0, upd MF 0 1) := by unfold mSeeC; rw [if_neg (by simp [c10])]
    refine sp_top (show 0 = (mSeeC x y w MF g ns nt tv).1 from by rw [eq9]) ?_
    subst hQ
    have hP9 : va_P D vwCl [(mo, oM (mSeeC x y w MF g ns nt tv).2 g0 t0 z0), (g0, aI cI 39 g), (t0, aI cI 174 (tab tv)), (z0, aI cI 174 (mSeeZ x y w MF tv z))] H := by rw [eq9]; unfold mSeeZ; rw [if_neg (by simp [c10])]; exact hP
    subst hAe
    exact W.iret hx hb hr (fun t ht hW => ⟨⟨_, (), rfl, rfl, by show va_P D vwCl _ t.heap; rw [ht]; exact hP9⟩, hS.F ht⟩) hS.2.2 dX3_foresee_27
  · skip
    obtain ⟨i, hi, rfl⟩ := isIn_nat (b := nt) (by omega) (show isIn x 0 (nI nt - 1) = true from by rw [← ht]; exact c10)
    refine lv_iload_n hx hb dX3_foresee_13 rfl (lv_at hl 3 rfl) ?_
    refine lv_iconst (v := 0) hx hb dX3_foresee_14 (by decide) ?_
    refine lv_iconst (v := 2) hx hb dX3_foresee_15 (by decide) ?_
    refine sp_rS (rest := []) (As := [.int w, .int 0, .int 2]) ⟨hx, hb, hml, hown, hts⟩ (mX3_isIn l D cI cT w 0 2) (va_cwS 3 hts gX3_foresee_X3_isIn rfl rfl rfl (by decide +kernel) ⟨Nat.le_of_ble_eq_true rfl, Nat.le_of_ble_eq_true rfl⟩) hK (show va_P D vwCl [] _ from fun k q h => by simp at h) rfl hl.1 rfl (Nat.le_of_ble_eq_true rfl) dX3_foresee_16 ⟨Nat.le_of_ble_eq_true rfl, Nat.le_of_ble_eq_true rfl⟩ ?_
    refine sp_if_ne (tgt := 28) hx hb dX3_foresee_19 (by decide) (fun c19 => ?_) (fun c19 => ?_)
    · skip
      refine lv_iload_n hx hb dX3_foresee_28 rfl (lv_at hl 2 rfl) ?_
      refine lv_iconst (v := 1) hx hb dX3_foresee_29 (by decide) ?_
      refine lv_sipush (v := 400) hx hb dX3_foresee_30 (by decide) ?_
      refine sp_rS (rest := []) (As := [.int y, .int 1, .int 400]) ⟨hx, hb, hml, hown, hts⟩ (mX3_isIn l D cI cT y 1 400) (va_cwS 3 hts gX3_foresee_X3_isIn rfl rfl rfl (by decide +kernel) ⟨Nat.le_of_ble_eq_true rfl, Nat.le_of_ble_eq_true rfl⟩) hK (show va_P D vwCl [] _ from fun k q h => by simp at h) rfl hl.1 rfl (Nat.le_of_ble_eq_true rfl) dX3_foresee_33 ⟨Nat.le_of_ble_eq_true rfl, Nat.le_of_ble_eq_true rfl⟩ ?_
      refine sp_if_ne (tgt := 45) hx hb dX3_foresee_36 (by decide) (fun c36 => ?_) (fun c36 => ?_)
      · skip
        obtain ⟨k, hk1, hk2, rfl⟩ := isIn_rng (a := 1) (b := 400) (by decide) (by decide) c36
        refine lv_aload_n hx hb dX3_foresee_45 rfl (lv_at hl 0 rfl) ?_
        refine va_get (D := D) (ci := 3) (v := .int (MF 1)) (C := RX3) (T := TX3) (N := 9) hx hb hts hiX3 hown hK.1 hP 0 rfl rfl 1 (by decide) (hts (.fieldLink RX3 40 "SledgeRaceModel" "tick" "I") (by decide +kernel)) (fun _ h9 => h9) rfl dX3_foresee_46 ?_
        refine lv_istore (lv' := [(4, .int (MF 1)), (0, .ref mo), (1, .int (nI i)), (2, .int (nI k)), (3, .int w)]) hx hb dX3_foresee_49 hl (by decide) rfl (fun ls hl => ?_)
        refine lv_aload_n hx hb dX3_foresee_51 rfl (lv_at hl 1 rfl) ?_
        refine va_get (D := D) (ci := 3) (v := .int (MF 4)) (C := RX3) (T := TX3) (N := 9) hx hb hts hiX3 hown hK.1 hP 0 rfl rfl 4 (by decide) (hts (.fieldLink RX3 95 "SledgeRaceModel" "broke" "I") (by decide +kernel)) (fun _ h9 => h9) rfl dX3_foresee_52 ?_
        refine lv_istore (lv' := [(5, .int (MF 4)), (4, .int (MF 1)), (0, .ref mo), (1, .int (nI i)), (2, .int (nI k)), (3, .int w)]) hx hb dX3_foresee_55 hl (by decide) rfl (fun ls hl => ?_)
        refine lv_aload_n hx hb dX3_foresee_57 rfl (lv_at hl 2 rfl) ?_
        refine va_get (D := D) (ci := 3) (v := .ref t0) (C := RX3) (T := TX3) (N := 9) hx hb hts hiX3 hown hK.1 hP 0 rfl rfl 7 (by decide) (hts (.fieldLink RX3 20 "SledgeRaceModel" "table" "[I") (by decide +kernel)) (fun _ h9 => h9) rfl dX3_foresee_58 ?_
        refine lv_iconst (v := nI 0) hx hb dX3_foresee_61 (by decide) ?_
        refine lv_aload_n hx hb dX3_foresee_62 rfl (lv_at hl 2 rfl) ?_
        refine va_get (D := D) (ci := 3) (v := .ref z0) (C := RX3) (T := TX3) (N := 9) hx hb hts hiX3 hown hK.1 hP 0 rfl rfl 8 (by decide) (hts (.fieldLink RX3 23 "SledgeRaceModel" "spare" "[I") (by decide +kernel)) (fun _ h9 => h9) rfl dX3_foresee_63 ?_
        refine lv_iconst (v := nI 0) hx hb dX3_foresee_66 (by decide) ?_
        refine lv_sipush (v := nI 174) hx hb dX3_foresee_67 (by decide) ?_
        refine sp_copy hx hb (hml.trans hl.1.symm) hown (hts (.methodLink RX3 46 arraycopyName) (by decide +kernel)) (hts (.native arraycopyName) (by decide +kernel)) (hts (.static arraycopyName) (by decide +kernel)) (hts (.initialized "java/lang/System") (by decide +kernel)) hK.1 hP hD hS 2 3 rfl rfl rfl 0 0 174 (by omega) (by omega) (by decide) (by decide) (Nat.le_of_ble_eq_true rfl) (Nat.le_of_ble_eq_true rfl) dX3_foresee_70 (fun H locs hP hD hS => ?_)
        have hP : va_P D vwCl [(mo, oM (upd MF 0 0) g0 t0 z0), (g0, aI cI 39 g), (t0, aI cI 174 (tab tv)), (z0, aI cI 174 (va_cpy (tab tv) z 0 0 174))] H := hP
        have hD : va_D A [(mo, oM (upd MF 0 0) g0 t0 z0), (g0, aI cI 39 g), (t0, aI cI 174 (tab tv)), (z0, aI cI 174 (va_cpy (tab tv) z 0 0 174))] := hD
        have hP : va_P D vwCl [(mo, oM (upd MF 0 0) g0 t0 z0), (g0, aI cI 39 g), (t0, aI cI 174 (tab tv)), (z0, aI cI 174 (tab tv))] H := sp_congr hP 3 rfl (fun j hj => by rw [pk_cpy_in (Nat.zero_le _) (by omega)]; exact congrArg _ (by omega)) rfl
        have hD : va_D A [(mo, oM (upd MF 0 0) g0 t0 z0), (g0, aI cI 39 g), (t0, aI cI 174 (tab tv)), (z0, aI cI 174 (tab tv))] := sp_Dsame (by rfl) hD
        refine lv_iconst (v := nI 0) hx hb dX3_foresee_73 (by decide) ?_
        refine lv_istore (lv' := [(6, .int (nI 0)), (5, .int (MF 4)), (4, .int (MF 1)), (0, .ref mo), (1, .int (nI i)), (2, .int (nI k)), (3, .int w)]) hx hb dX3_foresee_74 hl (by decide) rfl (fun ls hl => ?_)
        have loop76 : ∀ (fu : Nat) (j : Nat), (k - j) < fu → (j ≤ k) → (mKeep nt ns (mIt g ns nt (upd MF 0 0, tv) j)) → ∀ (H : Heap) (locs : List Loc), va_P D vwCl [(mo, oM ((mIt g ns nt (upd MF 0 0, tv) j).1) g0 t0 z0), (g0, aI cI 39 g), (t0, aI cI 174 (tab ((mIt g ns nt (upd MF 0 0, tv) j).2))), (z0, aI cI 174 (tab tv))] H → va_D A [(mo, oM ((mIt g ns nt (upd MF 0 0, tv) j).1) g0 t0 z0), (g0, aI cI 39 g), (t0, aI cI 174 (tab ((mIt g ns nt (upd MF 0 0, tv) j).2))), (z0, aI cI 174 (tab tv))] → va_S A s.heap H locs → ∀ (ls : Array Slot), lv_has ls 7 [(6, .int (nI j)), (5, .int (MF 4)), (4, .int (MF 1)), (0, .ref mo), (1, .int (nI i)), (2, .int (nI k)), (3, .int w)] → W p l e rmX3_foresee s m args below meth c H locs 0 0 Q (F0 m 76 ls []) := by
          intro fu
          induction fu with
          | zero => intro j hfu; exact absurd hfu (Nat.not_lt_zero _)
          | succ fu ih76 =>
            intro j hfu76 hjk hX
            intro H locs hP hD hS ls hl
            refine lv_iload hx hb dX3_foresee_76 (lv_at hl 0 rfl) ?_
            refine lv_iload_n hx hb dX3_foresee_78 rfl (lv_at hl 5 rfl) ?_
            refine sp_ge (by omega) (by omega) (tgt := 92) hx hb dX3_foresee_79 (by decide) (fun c79 => ?_) (fun c79 => ?_)
            · skip
              have en : k = j := (by omega)
              subst en
              refine lv_iload_n hx hb dX3_foresee_92 rfl (lv_at hl 6 rfl) ?_
              refine lv_if_ne (tgt := 106) hx hb dX3_foresee_93 (by decide) (fun c93 => ?_) (fun c93 => ?_)
              · skip
                refine lv_iload_n hx hb dX3_foresee_106 rfl (lv_at hl 6 rfl) ?_
                refine lv_iconst (v := 1) hx hb dX3_foresee_107 (by decide) ?_
                refine lv_icmp_ne (tgt := 119) hx hb dX3_foresee_108 (by decide) (fun c108 => ?_) (fun c108 => ?_)
                · skip
                  refine lv_aload_n hx hb dX3_foresee_119 rfl (lv_at hl 3 rfl) ?_
                  refine lv_iload_n hx hb dX3_foresee_120 rfl (lv_at hl 4 rfl) ?_
                  refine lv_bipush (v := 10) hx hb dX3_foresee_121 (by decide) ?_
                  refine sp_rV (rest := []) (As := [.int (nI i), .int (nI 10)]) ⟨hx, hb, hml, hown, hts⟩ (mX3_get l D cI cT mo g0 t0 z0 ((mIt g ns nt (upd MF 0 0, tv) k).1) ((mIt g ns nt (upd MF 0 0, tv) k).2) i 10 (((((mIt g ns nt (upd MF 0 0, tv) k).2) i).1) 10) (by omega) (by omega) (rfl)) (cwV 2 hts gX3_foresee_X3_get rfl rfl rfl (by decide +kernel) ⟨Nat.le_of_ble_eq_true rfl, Nat.le_of_ble_eq_true rfl⟩) hK (sp_pick hP [0, 2] rfl) (ci := 3) rfl rfl rfl rfl hl.1 rfl (Nat.le_of_ble_eq_true rfl) dX3_foresee_123 ⟨Nat.le_of_ble_eq_true rfl, Nat.le_of_ble_eq_true rfl⟩ ?_
                  refine lv_istore (lv' := [(6, .int (((((mIt g ns nt (upd MF 0 0, tv) k).2) i).1) 10)), (5, .int (MF 4)), (4, .int (MF 1)), (0, .ref mo), (1, .int (nI i)), (2, .int (nI k)), (3, .int w)]) hx hb dX3_foresee_126 hl (by decide) rfl (fun ls hl => ?_)
                  refine lv_aload_n hx hb dX3_foresee_128 rfl (lv_at hl 3 rfl) ?_
                  refine va_get (D := D) (ci := 3) (v := .ref z0) (C := RX3) (T := TX3) (N := 9) hx hb hts hiX3 hown hK.1 hP 0 rfl rfl 8 (by decide) (hts (.fieldLink RX3 23 "SledgeRaceModel" "spare" "[I") (by decide +kernel)) (fun _ h9 => h9) rfl dX3_foresee_129 ?_
                  refine lv_iconst (v := nI 0) hx hb dX3_foresee_132 (by decide) ?_
                  refine lv_aload_n hx hb dX3_foresee_133 rfl (lv_at hl 3 rfl) ?_
                  refine va_get (D := D) (ci := 3) (v := .ref t0) (C := RX3) (T := TX3) (N := 9) hx hb hts hiX3 hown hK.1 hP 0 rfl rfl 7 (by decide) (hts (.fieldLink RX3 20 "SledgeRaceModel" "table" "[I") (by decide +kernel)) (fun _ h9 => h9) rfl dX3_foresee_134 ?_
                  refine lv_iconst (v := nI 0) hx hb dX3_foresee_137 (by decide) ?_
                  refine lv_sipush (v := nI 174) hx hb dX3_foresee_138 (by decide) ?_
                  refine sp_copy hx hb (hml.trans hl.1.symm) hown (hts (.methodLink RX3 46 arraycopyName) (by decide +kernel)) (hts (.native arraycopyName) (by decide +kernel)) (hts (.static arraycopyName) (by decide +kernel)) (hts (.initialized "java/lang/System") (by decide +kernel)) hK.1 hP hD hS 3 2 rfl rfl rfl 0 0 174 (by omega) (by omega) (by decide) (by decide) (Nat.le_of_ble_eq_true rfl) (Nat.le_of_ble_eq_true rfl) dX3_foresee_141 (fun H locs hP hD hS => ?_)
                  have hP : va_P D vwCl [(mo, oM ((mIt g ns nt (upd MF 0 0, tv) k).1) g0 t0 z0), (g0, aI cI 39 g), (t0, aI cI 174 (va_cpy (tab tv) (tab ((mIt g ns nt (upd MF 0 0, tv) k).2)) 0 0 174)), (z0, aI cI 174 (tab tv))] H := hP
                  have hD : va_D A [(mo, oM ((mIt g ns nt (upd MF 0 0, tv) k).1) g0 t0 z0), (g0, aI cI 39 g), (t0, aI cI 174 (va_cpy (tab tv) (tab ((mIt g ns nt (upd MF 0 0, tv) k).2)) 0 0 174)), (z0, aI cI 174 (tab tv))] := hD
                  have hP : va_P D vwCl [(mo, oM ((mIt g ns nt (upd MF 0 0, tv) k).1) g0 t0 z0), (g0, aI cI 39 g), (t0, aI cI 174 (tab tv)), (z0, aI cI 174 (tab tv))] H := sp_congr hP 2 rfl (fun j hj => by rw [pk_cpy_in (Nat.zero_le _) (by omega)]; exact congrArg _ (by omega)) rfl
                  have hD : va_D A [(mo, oM ((mIt g ns nt (upd MF 0 0, tv) k).1) g0 t0 z0), (g0, aI cI 39 g), (t0, aI cI 174 (tab tv)), (z0, aI cI 174 (tab tv))] := sp_Dsame (by rfl) hD
                  refine lv_aload_n hx hb dX3_foresee_144 rfl (lv_at hl 3 rfl) ?_
                  refine lv_iload hx hb dX3_foresee_145 (lv_at hl 2 rfl) ?_
                  refine va_put (D := D) (ci := 3) (v := .int (MF 1)) (ty := .int) (C := RX3) (T := TX3) (N := 9) hx hb hts hiX3 tyX3 tyX3_ok nmX3 hown hK.1 hP hD hS 0 rfl rfl 1 (by decide) (hts (.fieldLink RX3 40 "SledgeRaceModel" "tick" "I") (by decide +kernel)) (fun _ h9 => h9) rfl (by decide +kernel) rfl rfl (Nat.le_of_ble_eq_true rfl) dX3_foresee_147 (fun H locs hP hD hS => ?_)
                  have hP : va_P D vwCl [(mo, oM (upd ((mIt g ns nt (upd MF 0 0, tv) k).1) 1 (MF 1)) g0 t0 z0), (g0, aI cI 39 g), (t0, aI cI 174 (tab tv)), (z0, aI cI 174 (tab tv))] H := hP
                  have hD : va_D A [(mo, oM (upd ((mIt g ns nt (upd MF 0 0, tv) k).1) 1 (MF 1)) g0 t0 z0), (g0, aI cI 39 g), (t0, aI cI 174 (tab tv)), (z0, aI cI 174 (tab tv))] := hD
                  refine lv_aload_n hx hb dX3_foresee_150 rfl (lv_at hl 3 rfl) ?_
                  refine lv_iload hx hb dX3_foresee_151 (lv_at hl 1 rfl) ?_
                  refine va_put (D := D) (ci := 3) (v := .int (MF 4)) (ty := .int) (C := RX3) (T := TX3) (N := 9) hx hb hts hiX3 tyX3 tyX3_ok nmX3 hown hK.1 hP hD hS 0 rfl rfl 4 (by decide) (hts (.fieldLink RX3 95 "SledgeRaceModel" "broke" "I") (by decide +kernel)) (fun _ h9 => h9) rfl (by decide +kernel) rfl rfl (Nat.le_of_ble_eq_true rfl) dX3_foresee_153 (fun H locs hP hD hS => ?_)
                  have hP : va_P D vwCl [(mo, oM (upd (upd ((mIt g ns nt (upd MF 0 0, tv) k).1) 1 (MF 1)) 4 (MF 4)) g0 t0 z0), (g0, aI cI 39 g), (t0, aI cI 174 (tab tv)), (z0, aI cI 174 (tab tv))] H := hP
                  have hD : va_D A [(mo, oM (upd (upd ((mIt g ns nt (upd MF 0 0, tv) k).1) 1 (MF 1)) 4 (MF 4)) g0 t0 z0), (g0, aI cI 39 g), (t0, aI cI 174 (tab tv)), (z0, aI cI 174 (tab tv))] := hD
                  refine lv_iload hx hb dX3_foresee_156 (lv_at hl 0 rfl) ?_
                  have eq9 : (mSeeC (nI i) (nI k) w MF g ns nt tv) = (((((mIt g ns nt (upd MF 0 0, tv) k).2) i).1) 10, upd MF 0 0) := by unfold mSeeC; rw [if_pos (by rw [c10, c19]; rfl), if_pos c36, nI_clamp (by omega), nI_clamp (by omega)]; unfold mSee; rw [if_neg c93, if_neg c108]
                  refine sp_top (show ((((mIt g ns nt (upd MF 0 0, tv) k).2) i).1) 10 = (mSeeC (nI i) (nI k) w MF g ns nt tv).1 from by rw [eq9]) ?_
                  subst hQ
                  have hP9 : va_P D vwCl [(mo, oM (mSeeC (nI i) (nI k) w MF g ns nt tv).2 g0 t0 z0), (g0, aI cI 39 g), (t0, aI cI 174 (tab tv)), (z0, aI cI 174 (mSeeZ (nI i) (nI k) w MF tv z))] H := by rw [eq9]; unfold mSeeZ; rw [if_pos (by rw [c10, c19, c36]; rfl)]; rw [oM_eq (F := upd MF 0 0) (E := upd (upd (mIt g ns nt (upd MF 0 0, tv) k).1 1 (MF 1)) 4 (MF 4)) (mIt_k (g := g) (ns := ns) (nt := nt) (X := (upd MF 0 0, tv)) (j := 0) (by decide) (by decide) k).symm rfl (mIt_k (g := g) (ns := ns) (nt := nt) (X := (upd MF 0 0, tv)) (j := 2) (by decide) (by decide) k).symm (mIt_k (g := g) (ns := ns) (nt := nt) (X := (upd MF 0 0, tv)) (j := 3) (by decide) (by decide) k).symm rfl (mIt_k (g := g) (ns := ns) (nt := nt) (X := (upd MF 0 0, tv)) (j := 5) (by decide) (by decide) k).symm]; exact hP
                  subst hAe
                  exact W.iret hx hb hr (fun t ht hW => ⟨⟨_, (), rfl, rfl, by show va_P D vwCl _ t.heap; rw [ht]; exact hP9⟩, hS.F ht⟩) hS.2.2 dX3_foresee_158
                · skip
                  refine lv_aload_n hx hb dX3_foresee_111 rfl (lv_at hl 3 rfl) ?_
                  refine lv_iload_n hx hb dX3_foresee_112 rfl (lv_at hl 4 rfl) ?_
                  refine sp_rV (rest := []) (As := [.int (nI i)]) ⟨hx, hb, hml, hown, hts⟩ (mX3_rankOf l D cI cT mo g0 t0 z0 ((mIt g ns nt (upd MF 0 0, tv) k).1) ((mIt g ns nt (upd MF 0 0, tv) k).2) i (by omega) nt hnt hX.1) (cwV 1 hts gX3_foresee_X3_rankOf rfl rfl rfl (by decide +kernel) ⟨Nat.le_of_ble_eq_true rfl, Nat.le_of_ble_eq_true rfl⟩) hK (sp_pick hP [0, 2] rfl) (ci := 3) rfl rfl rfl rfl hl.1 rfl (Nat.le_of_ble_eq_true rfl) dX3_foresee_113 ⟨Nat.le_of_ble_eq_true rfl, Nat.le_of_ble_eq_true rfl⟩ ?_
                  refine lv_goto (tgt := 126) hx hb dX3_foresee_116 (by decide) ?_
                  refine lv_istore (lv' := [(6, .int (nI (mRank ((mIt g ns nt (upd MF 0 0, tv) k).2) nt i))), (5, .int (MF 4)), (4, .int (MF 1)), (0, .ref mo), (1, .int (nI i)), (2, .int (nI k)), (3, .int w)]) hx hb dX3_foresee_126 hl (by decide) rfl (fun ls hl => ?_)
                  refine lv_aload_n hx hb dX3_foresee_128 rfl (lv_at hl 3 rfl) ?_
                  refine va_get (D := D) (ci := 3) (v := .ref z0) (C := RX3) (T := TX3) (N := 9) hx hb hts hiX3 hown hK.1 hP 0 rfl rfl 8 (by decide) (hts (.fieldLink RX3 23 "SledgeRaceModel" "spare" "[I") (by decide +kernel)) (fun _ h9 => h9) rfl dX3_foresee_129 ?_
                  refine lv_iconst (v := nI 0) hx hb dX3_foresee_132 (by decide) ?_
                  refine lv_aload_n hx hb dX3_foresee_133 rfl (lv_at hl 3 rfl) ?_
                  refine va_get (D := D) (ci := 3) (v := .ref t0) (C := RX3) (T := TX3) (N := 9) hx hb hts hiX3 hown hK.1 hP 0 rfl rfl 7 (by decide) (hts (.fieldLink RX3 20 "SledgeRaceModel" "table" "[I") (by decide +kernel)) (fun _ h9 => h9) rfl dX3_foresee_134 ?_
                  refine lv_iconst (v := nI 0) hx hb dX3_foresee_137 (by decide) ?_
                  refine lv_sipush (v := nI 174) hx hb dX3_foresee_138 (by decide) ?_
                  refine sp_copy hx hb (hml.trans hl.1.symm) hown (hts (.methodLink RX3 46 arraycopyName) (by decide +kernel)) (hts (.native arraycopyName) (by decide +kernel)) (hts (.static arraycopyName) (by decide +kernel)) (hts (.initialized "java/lang/System") (by decide +kernel)) hK.1 hP hD hS 3 2 rfl rfl rfl 0 0 174 (by omega) (by omega) (by decide) (by decide) (Nat.le_of_ble_eq_true rfl) (Nat.le_of_ble_eq_true rfl) dX3_foresee_141 (fun H locs hP hD hS => ?_)
                  have hP : va_P D vwCl [(mo, oM ((mIt g ns nt (upd MF 0 0, tv) k).1) g0 t0 z0), (g0, aI cI 39 g), (t0, aI cI 174 (va_cpy (tab tv) (tab ((mIt g ns nt (upd MF 0 0, tv) k).2)) 0 0 174)), (z0, aI cI 174 (tab tv))] H := hP
                  have hD : va_D A [(mo, oM ((mIt g ns nt (upd MF 0 0, tv) k).1) g0 t0 z0), (g0, aI cI 39 g), (t0, aI cI 174 (va_cpy (tab tv) (tab ((mIt g ns nt (upd MF 0 0, tv) k).2)) 0 0 174)), (z0, aI cI 174 (tab tv))] := hD
                  have hP : va_P D vwCl [(mo, oM ((mIt g ns nt (upd MF 0 0, tv) k).1) g0 t0 z0), (g0, aI cI 39 g), (t0, aI cI 174 (tab tv)), (z0, aI cI 174 (tab tv))] H := sp_congr hP 2 rfl (fun j hj => by rw [pk_cpy_in (Nat.zero_le _) (by omega)]; exact congrArg _ (by omega)) rfl
                  have hD : va_D A [(mo, oM ((mIt g ns nt (upd MF 0 0, tv) k).1) g0 t0 z0), (g0, aI cI 39 g), (t0, aI cI 174 (tab tv)), (z0, aI cI 174 (tab tv))] := sp_Dsame (by rfl) hD
                  refine lv_aload_n hx hb dX3_foresee_144 rfl (lv_at hl 3 rfl) ?_
                  refine lv_iload hx hb dX3_foresee_145 (lv_at hl 2 rfl) ?_
                  refine va_put (D := D) (ci := 3) (v := .int (MF 1)) (ty := .int) (C := RX3) (T := TX3) (N := 9) hx hb hts hiX3 tyX3 tyX3_ok nmX3 hown hK.1 hP hD hS 0 rfl rfl 1 (by decide) (hts (.fieldLink RX3 40 "SledgeRaceModel" "tick" "I") (by decide +kernel)) (fun _ h9 => h9) rfl (by decide +kernel) rfl rfl (Nat.le_of_ble_eq_true rfl) dX3_foresee_147 (fun H locs hP hD hS => ?_)
                  have hP : va_P D vwCl [(mo, oM (upd ((mIt g ns nt (upd MF 0 0, tv) k).1) 1 (MF 1)) g0 t0 z0), (g0, aI cI 39 g), (t0, aI cI 174 (tab tv)), (z0, aI cI 174 (tab tv))] H := hP
                  have hD : va_D A [(mo, oM (upd ((mIt g ns nt (upd MF 0 0, tv) k).1) 1 (MF 1)) g0 t0 z0), (g0, aI cI 39 g), (t0, aI cI 174 (tab tv)), (z0, aI cI 174 (tab tv))] := hD
                  refine lv_aload_n hx hb dX3_foresee_150 rfl (lv_at hl 3 rfl) ?_
                  refine lv_iload hx hb dX3_foresee_151 (lv_at hl 1 rfl) ?_
                  refine va_put (D := D) (ci := 3) (v := .int (MF 4)) (ty := .int) (C := RX3) (T := TX3) (N := 9) hx hb hts hiX3 tyX3 tyX3_ok nmX3 hown hK.1 hP hD hS 0 rfl rfl 4 (by decide) (hts (.fieldLink RX3 95 "SledgeRaceModel" "broke" "I") (by decide +kernel)) (fun _ h9 => h9) rfl (by decide +kernel) rfl rfl (Nat.le_of_ble_eq_true rfl) dX3_foresee_153 (fun H locs hP hD hS => ?_)
                  have hP : va_P D vwCl [(mo, oM (upd (upd ((mIt g ns nt (upd MF 0 0, tv) k).1) 1 (MF 1)) 4 (MF 4)) g0 t0 z0), (g0, aI cI 39 g), (t0, aI cI 174 (tab tv)), (z0, aI cI 174 (tab tv))] H := hP
                  have hD : va_D A [(mo, oM (upd (upd ((mIt g ns nt (upd MF 0 0, tv) k).1) 1 (MF 1)) 4 (MF 4)) g0 t0 z0), (g0, aI cI 39 g), (t0, aI cI 174 (tab tv)), (z0, aI cI 174 (tab tv))] := hD
                  refine lv_iload hx hb dX3_foresee_156 (lv_at hl 0 rfl) ?_
                  have eq9 : (mSeeC (nI i) (nI k) w MF g ns nt tv) = (nI (mRank ((mIt g ns nt (upd MF 0 0, tv) k).2) nt i), upd MF 0 0) := by unfold mSeeC; rw [if_pos (by rw [c10, c19]; rfl), if_pos c36, nI_clamp (by omega), nI_clamp (by omega)]; unfold mSee; rw [if_neg c93, if_pos c108]
                  refine sp_top (show nI (mRank ((mIt g ns nt (upd MF 0 0, tv) k).2) nt i) = (mSeeC (nI i) (nI k) w MF g ns nt tv).1 from by rw [eq9]) ?_
                  subst hQ
                  have hP9 : va_P D vwCl [(mo, oM (mSeeC (nI i) (nI k) w MF g ns nt tv).2 g0 t0 z0), (g0, aI cI 39 g), (t0, aI cI 174 (tab tv)), (z0, aI cI 174 (mSeeZ (nI i) (nI k) w MF tv z))] H := by rw [eq9]; unfold mSeeZ; rw [if_pos (by rw [c10, c19, c36]; rfl)]; rw [oM_eq (F := upd MF 0 0) (E := upd (upd (mIt g ns nt (upd MF 0 0, tv) k).1 1 (MF 1)) 4 (MF 4)) (mIt_k (g := g) (ns := ns) (nt := nt) (X := (upd MF 0 0, tv)) (j := 0) (by decide) (by decide) k).symm rfl (mIt_k (g := g) (ns := ns) (nt := nt) (X := (upd MF 0 0, tv)) (j := 2) (by decide) (by decide) k).symm (mIt_k (g := g) (ns := ns) (nt := nt) (X := (upd MF 0 0, tv)) (j := 3) (by decide) (by decide) k).symm rfl (mIt_k (g := g) (ns := ns) (nt := nt) (X := (upd MF 0 0, tv)) (j := 5) (by decide) (by decide) k).symm]; exact hP
                  subst hAe
                  exact W.iret hx hb hr (fun t ht hW => ⟨⟨_, (), rfl, rfl, by show va_P D vwCl _ t.heap; rw [ht]; exact hP9⟩, hS.F ht⟩) hS.2.2 dX3_foresee_158
              · skip
                refine lv_aload_n hx hb dX3_foresee_96 rfl (lv_at hl 3 rfl) ?_
                refine lv_iload_n hx hb dX3_foresee_97 rfl (lv_at hl 4 rfl) ?_
                refine lv_bipush (v := 9) hx hb dX3_foresee_98 (by decide) ?_
                refine sp_rV (rest := []) (As := [.int (nI i), .int (nI 9)]) ⟨hx, hb, hml, hown, hts⟩ (mX3_get l D cI cT mo g0 t0 z0 ((mIt g ns nt (upd MF 0 0, tv) k).1) ((mIt g ns nt (upd MF 0 0, tv) k).2) i 9 (((((mIt g ns nt (upd MF 0 0, tv) k).2) i).1) 9) (by omega) (by omega) (rfl)) (cwV 2 hts gX3_foresee_X3_get rfl rfl rfl (by decide +kernel) ⟨Nat.le_of_ble_eq_true rfl, Nat.le_of_ble_eq_true rfl⟩) hK (sp_pick hP [0, 2] rfl) (ci := 3) rfl rfl rfl rfl hl.1 rfl (Nat.le_of_ble_eq_true rfl) dX3_foresee_100 ⟨Nat.le_of_ble_eq_true rfl, Nat.le_of_ble_eq_true rfl⟩ ?_
                refine lv_goto (tgt := 126) hx hb dX3_foresee_103 (by decide) ?_
                refine lv_istore (lv' := [(6, .int (((((mIt g ns nt (upd MF 0 0, tv) k).2) i).1) 9)), (5, .int (MF 4)), (4, .int (MF 1)), (0, .ref mo), (1, .int (nI i)), (2, .int (nI k)), (3, .int w)]) hx hb dX3_foresee_126 hl (by decide) rfl (fun ls hl => ?_)
                refine lv_aload_n hx hb dX3_foresee_128 rfl (lv_at hl 3 rfl) ?_
                refine va_get (D := D) (ci := 3) (v := .ref z0) (C := RX3) (T := TX3) (N := 9) hx hb hts hiX3 hown hK.1 hP 0 rfl rfl 8 (by decide) (hts (.fieldLink RX3 23 "SledgeRaceModel" "spare" "[I") (by decide +kernel)) (fun _ h9 => h9) rfl dX3_foresee_129 ?_
                refine lv_iconst (v := nI 0) hx hb dX3_foresee_132 (by decide) ?_
                refine lv_aload_n hx hb dX3_foresee_133 rfl (lv_at hl 3 rfl) ?_
                refine va_get (D := D) (ci := 3) (v := .ref t0) (C := RX3) (T := TX3) (N := 9) hx hb hts hiX3 hown hK.1 hP 0 rfl rfl 7 (by decide) (hts (.fieldLink RX3 20 "SledgeRaceModel" "table" "[I") (by decide +kernel)) (fun _ h9 => h9) rfl dX3_foresee_134 ?_
                refine lv_iconst (v := nI 0) hx hb dX3_foresee_137 (by decide) ?_
                refine lv_sipush (v := nI 174) hx hb dX3_foresee_138 (by decide) ?_
                refine sp_copy hx hb (hml.trans hl.1.symm) hown (hts (.methodLink RX3 46 arraycopyName) (by decide +kernel)) (hts (.native arraycopyName) (by decide +kernel)) (hts (.static arraycopyName) (by decide +kernel)) (hts (.initialized "java/lang/System") (by decide +kernel)) hK.1 hP hD hS 3 2 rfl rfl rfl 0 0 174 (by omega) (by omega) (by decide) (by decide) (Nat.le_of_ble_eq_true rfl) (Nat.le_of_ble_eq_true rfl) dX3_foresee_141 (fun H locs hP hD hS => ?_)
                have hP : va_P D vwCl [(mo, oM ((mIt g ns nt (upd MF 0 0, tv) k).1) g0 t0 z0), (g0, aI cI 39 g), (t0, aI cI 174 (va_cpy (tab tv) (tab ((mIt g ns nt (upd MF 0 0, tv) k).2)) 0 0 174)), (z0, aI cI 174 (tab tv))] H := hP
                have hD : va_D A [(mo, oM ((mIt g ns nt (upd MF 0 0, tv) k).1) g0 t0 z0), (g0, aI cI 39 g), (t0, aI cI 174 (va_cpy (tab tv) (tab ((mIt g ns nt (upd MF 0 0, tv) k).2)) 0 0 174)), (z0, aI cI 174 (tab tv))] := hD
                have hP : va_P D vwCl [(mo, oM ((mIt g ns nt (upd MF 0 0, tv) k).1) g0 t0 z0), (g0, aI cI 39 g), (t0, aI cI 174 (tab tv)), (z0, aI cI 174 (tab tv))] H := sp_congr hP 2 rfl (fun j hj => by rw [pk_cpy_in (Nat.zero_le _) (by omega)]; exact congrArg _ (by omega)) rfl
                have hD : va_D A [(mo, oM ((mIt g ns nt (upd MF 0 0, tv) k).1) g0 t0 z0), (g0, aI cI 39 g), (t0, aI cI 174 (tab tv)), (z0, aI cI 174 (tab tv))] := sp_Dsame (by rfl) hD
                refine lv_aload_n hx hb dX3_foresee_144 rfl (lv_at hl 3 rfl) ?_
                refine lv_iload hx hb dX3_foresee_145 (lv_at hl 2 rfl) ?_
                refine va_put (D := D) (ci := 3) (v := .int (MF 1)) (ty := .int) (C := RX3) (T := TX3) (N := 9) hx hb hts hiX3 tyX3 tyX3_ok nmX3 hown hK.1 hP hD hS 0 rfl rfl 1 (by decide) (hts (.fieldLink RX3 40 "SledgeRaceModel" "tick" "I") (by decide +kernel)) (fun _ h9 => h9) rfl (by decide +kernel) rfl rfl (Nat.le_of_ble_eq_true rfl) dX3_foresee_147 (fun H locs hP hD hS => ?_)
                have hP : va_P D vwCl [(mo, oM (upd ((mIt g ns nt (upd MF 0 0, tv) k).1) 1 (MF 1)) g0 t0 z0), (g0, aI cI 39 g), (t0, aI cI 174 (tab tv)), (z0, aI cI 174 (tab tv))] H := hP
                have hD : va_D A [(mo, oM (upd ((mIt g ns nt (upd MF 0 0, tv) k).1) 1 (MF 1)) g0 t0 z0), (g0, aI cI 39 g), (t0, aI cI 174 (tab tv)), (z0, aI cI 174 (tab tv))] := hD
                refine lv_aload_n hx hb dX3_foresee_150 rfl (lv_at hl 3 rfl) ?_
                refine lv_iload hx hb dX3_foresee_151 (lv_at hl 1 rfl) ?_
                refine va_put (D := D) (ci := 3) (v := .int (MF 4)) (ty := .int) (C := RX3) (T := TX3) (N := 9) hx hb hts hiX3 tyX3 tyX3_ok nmX3 hown hK.1 hP hD hS 0 rfl rfl 4 (by decide) (hts (.fieldLink RX3 95 "SledgeRaceModel" "broke" "I") (by decide +kernel)) (fun _ h9 => h9) rfl (by decide +kernel) rfl rfl (Nat.le_of_ble_eq_true rfl) dX3_foresee_153 (fun H locs hP hD hS => ?_)
                have hP : va_P D vwCl [(mo, oM (upd (upd ((mIt g ns nt (upd MF 0 0, tv) k).1) 1 (MF 1)) 4 (MF 4)) g0 t0 z0), (g0, aI cI 39 g), (t0, aI cI 174 (tab tv)), (z0, aI cI 174 (tab tv))] H := hP
                have hD : va_D A [(mo, oM (upd (upd ((mIt g ns nt (upd MF 0 0, tv) k).1) 1 (MF 1)) 4 (MF 4)) g0 t0 z0), (g0, aI cI 39 g), (t0, aI cI 174 (tab tv)), (z0, aI cI 174 (tab tv))] := hD
                refine lv_iload hx hb dX3_foresee_156 (lv_at hl 0 rfl) ?_
                have eq9 : (mSeeC (nI i) (nI k) w MF g ns nt tv) = (((((mIt g ns nt (upd MF 0 0, tv) k).2) i).1) 9, upd MF 0 0) := by unfold mSeeC; rw [if_pos (by rw [c10, c19]; rfl), if_pos c36, nI_clamp (by omega), nI_clamp (by omega)]; unfold mSee; rw [if_pos c93]
                refine sp_top (show ((((mIt g ns nt (upd MF 0 0, tv) k).2) i).1) 9 = (mSeeC (nI i) (nI k) w MF g ns nt tv).1 from by rw [eq9]) ?_
                subst hQ
                have hP9 : va_P D vwCl [(mo, oM (mSeeC (nI i) (nI k) w MF g ns nt tv).2 g0 t0 z0), (g0, aI cI 39 g), (t0, aI cI 174 (tab tv)), (z0, aI cI 174 (mSeeZ (nI i) (nI k) w MF tv z))] H := by rw [eq9]; unfold mSeeZ; rw [if_pos (by rw [c10, c19, c36]; rfl)]; rw [oM_eq (F := upd MF 0 0) (E := upd (upd (mIt g ns nt (upd MF 0 0, tv) k).1 1 (MF 1)) 4 (MF 4)) (mIt_k (g := g) (ns := ns) (nt := nt) (X := (upd MF 0 0, tv)) (j := 0) (by decide) (by decide) k).symm rfl (mIt_k (g := g) (ns := ns) (nt := nt) (X := (upd MF 0 0, tv)) (j := 2) (by decide) (by decide) k).symm (mIt_k (g := g) (ns := ns) (nt := nt) (X := (upd MF 0 0, tv)) (j := 3) (by decide) (by decide) k).symm rfl (mIt_k (g := g) (ns := ns) (nt := nt) (X := (upd MF 0 0, tv)) (j := 5) (by decide) (by decide) k).symm]; exact hP
                subst hAe
                exact W.iret hx hb hr (fun t ht hW => ⟨⟨_, (), rfl, rfl, by show va_P D vwCl _ t.heap; rw [ht]; exact hP9⟩, hS.F ht⟩) hS.2.2 dX3_foresee_158
            · skip
              refine lv_aload_n hx hb dX3_foresee_82 rfl (lv_at hl 3 rfl) ?_
              refine sp_vV (rest := []) (As := []) (W1 := [(mo, oM ((mStep g ns nt ((mIt g ns nt (upd MF 0 0, tv) j).1, (mIt g ns nt (upd MF 0 0, tv) j).2)).1) g0 t0 z0), (g0, aI cI 39 g), (t0, aI cI 174 (tab ((mStep g ns nt ((mIt g ns nt (upd MF 0 0, tv) j).1, (mIt g ns nt (upd MF 0 0, tv) j).2)).2))), (z0, aI cI 174 (tab tv))]) ⟨hx, hb, hml, hown, hts⟩ (mX3_tickOn l D cI cT mo g0 t0 z0 ((mIt g ns nt (upd MF 0 0, tv) j).1) g ((mIt g ns nt (upd MF 0 0, tv) j).2) ns hns0 hns hX.2.1 nt hnt hX.1 hX.2.2) (cwV 0 hts gX3_foresee_X3_tickOn rfl rfl rfl (by decide +kernel) ⟨Nat.le_of_ble_eq_true rfl, Nat.le_of_ble_eq_true rfl⟩) hK hP hD hS [0, 1, 2] rfl (fun k q h => by simp at h) (sp_nsub hN [0, 1, 2] (by decide) rfl) rfl rfl rfl (ci := 3) rfl rfl rfl rfl hl.1 rfl (Nat.le_of_ble_eq_true rfl) dX3_foresee_83 ⟨Nat.le_of_ble_eq_true rfl, Nat.le_of_ble_eq_true rfl⟩ (fun H locs hP hD hS => ?_)
              refine lv_iinc (v := nI (j + 1)) (lv' := [(6, .int (nI (j + 1))), (5, .int (MF 4)), (4, .int (MF 1)), (0, .ref mo), (1, .int (nI i)), (2, .int (nI k)), (3, .int w)]) hx hb dX3_foresee_86 hl (k := 0) rfl ((nI_1 j)) (by decide) rfl (fun ls hl => ?_)
              refine lv_goto (tgt := 76) hx hb dX3_foresee_89 (by decide) ?_
              exact ih76 (j + 1) (by omega) (by omega) (hX.step) _ _ hP hD hS ls (lv_sub hl [0, 1, 2, 3, 4, 5, 6] rfl)
        exact loop76 _ 0 (Nat.lt_succ_self _) (Nat.zero_le _) (⟨ht, h5, hok⟩) _ _ hP hD hS ls (lv_sub hl [0, 1, 2, 3, 4, 5, 6] rfl)
      · skip
        refine lv_aload_n hx hb dX3_foresee_39 rfl (lv_at hl 0 rfl) ?_
        refine lv_iconst (v := 2) hx hb dX3_foresee_40 (by decide) ?_
        refine sp_vI (rest := []) (As := [.int 2]) (W1 := [(mo, oM (upd (upd MF 0 0) 0 2) g0 t0 z0), (g0, aI cI 39 g), (t0, aI cI 174 (tab tv)), (z0, aI cI 174 z)]) ⟨hx, hb, hml, hown, hts⟩ (mX3_fail l D cI cT mo g0 t0 z0 (upd MF 0 0) 2) (cwV 1 hts gX3_foresee_X3_fail rfl rfl rfl (by decide +kernel) ⟨Nat.le_of_ble_eq_true rfl, Nat.le_of_ble_eq_true rfl⟩) hK hP hD hS [0] rfl (fun k q h => by simp at h) (sp_nsub hN [0] (by decide) rfl) rfl rfl rfl (ci := 3) rfl rfl rfl rfl hl.1 rfl (Nat.le_of_ble_eq_true rfl) dX3_foresee_41 ⟨Nat.le_of_ble_eq_true rfl, Nat.le_of_ble_eq_true rfl⟩ (fun H locs hP hD hS => ?_)
        have eq9 : (mSeeC (nI i) y w MF g ns nt tv) = (0, upd MF 0 2) := by unfold mSeeC; rw [if_pos (by rw [c10, c19]; rfl), if_neg (by rw [c36]; decide)]
        refine sp_top (show 0 = (mSeeC (nI i) y w MF g ns nt tv).1 from by rw [eq9]) ?_
        subst hQ
        have hP9 : va_P D vwCl [(mo, oM (mSeeC (nI i) y w MF g ns nt tv).2 g0 t0 z0), (g0, aI cI 39 g), (t0, aI cI 174 (tab tv)), (z0, aI cI 174 (mSeeZ (nI i) y w MF tv z))] H := by rw [eq9]; unfold mSeeZ; rw [if_neg (by simp [c36])]; exact hP
        subst hAe
        exact W.iret hx hb hr (fun t ht hW => ⟨⟨_, (), rfl, rfl, by show va_P D vwCl _ t.heap; rw [ht]; exact hP9⟩, hS.F ht⟩) hS.2.2 dX3_foresee_44
    · skip
      refine lv_aload_n hx hb dX3_foresee_22 rfl (lv_at hl 0 rfl) ?_
      refine lv_iconst (v := 1) hx hb dX3_foresee_23 (by decide) ?_
      refine sp_vI (rest := []) (As := [.int 1]) (W1 := [(mo, oM (upd (upd MF 0 0) 0 1) g0 t0 z0), (g0, aI cI 39 g), (t0, aI cI 174 (tab tv)), (z0, aI cI 174 z)]) ⟨hx, hb, hml, hown, hts⟩ (mX3_fail l D cI cT mo g0 t0 z0 (upd MF 0 0) 1) (cwV 1 hts gX3_foresee_X3_fail rfl rfl rfl (by decide +kernel) ⟨Nat.le_of_ble_eq_true rfl, Nat.le_of_ble_eq_true rfl⟩) hK hP hD hS [0] rfl (fun k q h => by simp at h) (sp_nsub hN [0] (by decide) rfl) rfl rfl rfl (ci := 3) rfl rfl rfl rfl hl.1 rfl (Nat.le_of_ble_eq_true rfl) dX3_foresee_24 ⟨Nat.le_of_ble_eq_true rfl, Nat.le_of_ble_eq_true rfl⟩ (fun H locs hP hD hS => ?_)
      have eq9 : (mSeeC (nI i) y w MF g ns nt tv) = (0, upd MF 0 1) := by unfold mSeeC; rw [if_neg (by simp [c19])]
      refine sp_top (show 0 = (mSeeC (nI i) y w MF g ns nt tv).1 from by rw [eq9]) ?_
      subst hQ
      have hP9 : va_P D vwCl [(mo, oM (mSeeC (nI i) y w MF g ns nt tv).2 g0 t0 z0), (g0, aI cI 39 g), (t0, aI cI 174 (tab tv)), (z0, aI cI 174 (mSeeZ (nI i) y w MF tv z))] H := by rw [eq9]; unfold mSeeZ; rw [if_neg (by simp [c19])]; exact hP
      subst hAe
      exact W.iret hx hb hr (fun t ht hW => ⟨⟨_, (), rfl, rfl, by show va_P D vwCl _ t.heap; rw [ht]; exact hP9⟩, hS.F ht⟩) hS.2.2 dX3_foresee_27
