abbrev rmX3_thrown : Room := { frames := 0, cells := 0, slots := 0, locals := 0 }
set_option maxHeartbeats 4000000 in
set_option maxRecDepth 100000 in
/-- what was thrown -/
theorem mX3_thrown (l : Launch) (D : va_G) (cI cT : ClassId) (mo g0 t0 z0 : Nat) (MF : Nat → Int32) : MetR l D cI cT yX3_thrown wsX3_thrown rmX3_thrown [.ref mo] [(mo, oM MF g0 t0 z0)] (MF 0) := by
  refine Met.ofW (cc := cX3_thrown) (maxL := 1) (ret := (some .int)) (by decide) rfl ?_
  intro p e s m args below meth c s₁ B hml hv
  obtain ⟨hargs, hP, hK⟩ := hv
  have hx := B.exec
  have hb := B.bytes
  have hr := B.returns
  have hts := atoms_spec (ws := wsX3_thrown) B.pre
  have hown : s.vm.findClass RX3 = some m.cls := findClass_of_methodNamed B.named
  have hlocks := B.notSynchronized
  have hiX3 : ∀ w ∈ u_ws RX3 TX3 9, w ∈ wsX3_thrown := by decide +kernel
  have he : entryFrame m args 1 = F0 m 0 ((lg_sl [.ref mo] ++ List.replicate (1 - (lg_sl [.ref mo]).length) Slot.unset).toArray) [] := by rw [hargs]; exact lg_entry_eq m _ _
  rw [he]
  change W p l e rmX3_thrown s m args below meth c s.heap [] 0 0 (MQ below (QcRead (MF 0)) args s 0 0 (fun _ => False)) _
  obtain ⟨Q, hQ⟩ : ∃ Q, Q = MQ below (QcRead (MF 0)) args s 0 0 (fun _ => False) := ⟨_, rfl⟩
  rw [← hQ]
  have hl := lv_entry [.ref mo] (n := 1) (Nat.le_of_ble_eq_true rfl)
  generalize (lg_sl [.ref mo] ++ List.replicate (1 - (lg_sl [.ref mo]).length) Slot.unset).toArray = ls at hl ⊢
  have hl : lv_has ls 1 [(0, .ref mo)] := hl
  refine lv_aload_n hx hb dX3_thrown_0 rfl (lv_at hl 0 rfl) ?_
  refine va_get (D := D) (ci := 3) (v := .int (MF 0)) (C := RX3) (T := TX3) (N := 9) hx hb hts hiX3 hown hK.1 hP 0 rfl rfl 0 (by decide) (hts (.fieldLink RX3 26 "SledgeRaceModel" "thrown" "I") (by decide +kernel)) (fun _ h9 => h9) rfl dX3_thrown_1 ?_
  subst hQ
  exact W.iret hx hb hr (fun t ht _ => ⟨rfl, ht⟩) (fun _ h => nomatch h) dX3_thrown_4

abbrev rmX3_fail : Room := { frames := 0, cells := 0, slots := 0, locals := 0 }
set_option maxHeartbeats 4000000 in
set_option maxRecDepth 100000 in
/-- a call is refused -/
theorem mX3_fail (l : Launch) (D : va_G) (cI cT : ClassId) (mo g0 t0 z0 : Nat) (MF : Nat → Int32) (x : Int32) : MetI l D cI cT yX3_fail wsX3_fail rmX3_fail [.ref mo, .int x] [(mo, oM MF g0 t0 z0)] [] [(mo, oM (upd MF 0 x) g0 t0 z0)] (0) := by
  refine Met.ofW (cc := cX3_fail) (maxL := 2) (ret := (some .int)) (by decide) rfl ?_
  intro p e s m args below meth c s₁ B hml hv
  obtain ⟨hargs, hP, hR0, hK, hN⟩ := hv
  have hx := B.exec
  have hb := B.bytes
  have hr := B.returns
  have hts := atoms_spec (ws := wsX3_fail) B.pre
  have hown : s.vm.findClass RX3 = some m.cls := findClass_of_methodNamed B.named
  have hlocks := B.notSynchronized
  have hiX3 : ∀ w ∈ u_ws RX3 TX3 9, w ∈ wsX3_fail := by decide +kernel
  have he : entryFrame m args 2 = F0 m 0 ((lg_sl [.ref mo, .int x] ++ List.replicate (2 - (lg_sl [.ref mo, .int x]).length) Slot.unset).toArray) [] := by rw [hargs]; exact lg_entry_eq m _ _
  rw [he]
  change W p l e rmX3_fail s m args below meth c s.heap [] 0 0 (MQ below (va_Qi (S := Unit) (fun z _ => z = 0) (fun _ t => va_P D vwCl [(mo, oM (upd MF 0 x) g0 t0 z0)] t.heap) (fr (List.map Prod.fst [(mo, oM MF g0 t0 z0)]))) args s 0 0 (fr (List.map Prod.fst [(mo, oM MF g0 t0 z0)]))) _
  obtain ⟨Q, hQ⟩ : ∃ Q, Q = MQ below (va_Qi (S := Unit) (fun z _ => z = 0) (fun _ t => va_P D vwCl [(mo, oM (upd MF 0 x) g0 t0 z0)] t.heap) (fr (List.map Prod.fst [(mo, oM MF g0 t0 z0)]))) args s 0 0 (fr (List.map Prod.fst [(mo, oM MF g0 t0 z0)])) := ⟨_, rfl⟩
  rw [← hQ]
  have hl := lv_entry [.ref mo, .int x] (n := 2) (Nat.le_of_ble_eq_true rfl)
  generalize (lg_sl [.ref mo, .int x] ++ List.replicate (2 - (lg_sl [.ref mo, .int x]).length) Slot.unset).toArray = ls at hl ⊢
  have hl : lv_has ls 2 [(0, .ref mo), (1, .int x)] := hl
  obtain ⟨A, hAe⟩ : ∃ A, A = (fr (List.map Prod.fst [(mo, oM MF g0 t0 z0)])) := ⟨_, rfl⟩
  have hA0 : ∀ q ∈ List.map Prod.fst [(mo, oM MF g0 t0 z0)], A q := by rw [hAe]; exact fun q h => h
  have hD : va_D A [(mo, oM MF g0 t0 z0)] := sp_D (List.nodup_append.mp (show (([(mo, oM MF g0 t0 z0)] : va_W).map Prod.fst ++ ([] : va_W).map Prod.fst).Nodup by rw [← List.map_append]; exact hN)).1 hA0
  have hN : (List.map Prod.fst ([(mo, oM MF g0 t0 z0)] ++ []) : List Nat).Nodup := hN
  have hS : va_S A s.heap s.heap [] := va_S.rf
  obtain ⟨H, hH0⟩ : ∃ H, H = s.heap := ⟨_, rfl⟩
  obtain ⟨locs, hlo⟩ : ∃ L : List Loc, L = [] := ⟨_, rfl⟩
  have hP : va_P D vwCl [(mo, oM MF g0 t0 z0)] H := by rw [hH0]; exact hP
  have hS : va_S A s.heap H locs := by rw [hH0, hlo]; exact hS
  rw [show W p l e rmX3_fail s m args below meth c s.heap [] 0 0 Q (F0 m 0 ls []) = W p l e rmX3_fail s m args below meth c H locs 0 0 Q (F0 m 0 ls []) by rw [hH0, hlo]]
  clear hH0 hlo
  refine lv_aload_n hx hb dX3_fail_0 rfl (lv_at hl 0 rfl) ?_
  refine lv_iload_n hx hb dX3_fail_1 rfl (lv_at hl 1 rfl) ?_
  refine va_put (D := D) (ci := 3) (v := .int x) (ty := .int) (C := RX3) (T := TX3) (N := 9) hx hb hts hiX3 tyX3 tyX3_ok nmX3 hown hK.1 hP hD hS 0 rfl rfl 0 (by decide) (hts (.fieldLink RX3 26 "SledgeRaceModel" "thrown" "I") (by decide +kernel)) (fun _ h9 => h9) rfl (by decide +kernel) rfl rfl (Nat.le_of_ble_eq_true rfl) dX3_fail_2 (fun H locs hP hD hS => ?_)
  have hP : va_P D vwCl [(mo, oM (upd MF 0 x) g0 t0 z0)] H := hP
  have hD : va_D A [(mo, oM (upd MF 0 x) g0 t0 z0)] := hD
  refine lv_iconst (v := 0) hx hb dX3_fail_5 (by decide) ?_
  subst hQ
  have hP9 : va_P D vwCl [(mo, oM (upd MF 0 x) g0 t0 z0)] H := hP
  subst hAe
  exact W.iret hx hb hr (fun t ht hW => ⟨⟨_, (), rfl, rfl, by show va_P D vwCl _ t.heap; rw [ht]; exact hP9⟩, hS.F ht⟩) hS.2.2 dX3_fail_6

abbrev rmX3_isIn : Room := { frames := 0, cells := 0, slots := 0, locals := 0 }
set_option maxHeartbeats 4000000 in
set_option maxRecDepth 100000 in
/-- between two numbers -/
theorem mX3_isIn (l : Launch) (D : va_G) (cI cT : ClassId) (x a b : Int32) : MetR l D cI cT yX3_isIn wsX3_isIn rmX3_isIn [.int x, .int a, .int b] [] (bI (isIn x a b)) := by
  refine Met.ofW (cc := cX3_isIn) (maxL := 3) (ret := (some .boolean)) (by decide) rfl ?_
  intro p e s m args below meth c s₁ B hml hv
  obtain ⟨hargs, hP, hK⟩ := hv
  have hx := B.exec
  have hb := B.bytes
  have hr := B.returns
  have hts := atoms_spec (ws := wsX3_isIn) B.pre
  have hown : s.vm.findClass RX3 = some m.cls := findClass_of_methodNamed B.named
  have hlocks := B.notSynchronized
  have he : entryFrame m args 3 = F0 m 0 ((lg_sl [.int x, .int a, .int b] ++ List.replicate (3 - (lg_sl [.int x, .int a, .int b]).length) Slot.unset).toArray) [] := by rw [hargs]; exact lg_entry_eq m _ _
  rw [he]
  change W p l e rmX3_isIn s m args below meth c s.heap [] 0 0 (MQ below (QcRead (bI (isIn x a b))) args s 0 0 (fun _ => False)) _
  obtain ⟨Q, hQ⟩ : ∃ Q, Q = MQ below (QcRead (bI (isIn x a b))) args s 0 0 (fun _ => False) := ⟨_, rfl⟩
  rw [← hQ]
  have hl := lv_entry [.int x, .int a, .int b] (n := 3) (Nat.le_of_ble_eq_true rfl)
  generalize (lg_sl [.int x, .int a, .int b] ++ List.replicate (3 - (lg_sl [.int x, .int a, .int b]).length) Slot.unset).toArray = ls at hl ⊢
  have hl : lv_has ls 3 [(0, .int x), (1, .int a), (2, .int b)] := hl
  refine lv_iload_n hx hb dX3_isIn_0 rfl (lv_at hl 0 rfl) ?_
  refine lv_iload_n hx hb dX3_isIn_1 rfl (lv_at hl 1 rfl) ?_
  refine lv_icmp_lt (tgt := 14) hx hb dX3_isIn_2 (by decide) (fun c2 => ?_) (fun c2 => ?_)
  · skip
    refine lv_iconst (v := 0) hx hb dX3_isIn_14 (by decide) ?_
    refine sp_top (show 0 = bI (isIn x a b) from by unfold isIn; rw [decide_eq_false (fun q => q.1 c2)]; rfl) ?_
    subst hQ
    exact W.zret hx hb hr (bI_nar _) (fun t ht _ => ⟨rfl, ht⟩) (fun _ h => nomatch h) dX3_isIn_15
  · skip
    refine lv_iload_n hx hb dX3_isIn_5 rfl (lv_at hl 0 rfl) ?_
    refine lv_iload_n hx hb dX3_isIn_6 rfl (lv_at hl 2 rfl) ?_
    refine lv_icmp_gt (tgt := 14) hx hb dX3_isIn_7 (by decide) (fun c7 => ?_) (fun c7 => ?_)
    · skip
      refine lv_iconst (v := 0) hx hb dX3_isIn_14 (by decide) ?_
      refine sp_top (show 0 = bI (isIn x a b) from by unfold isIn; rw [decide_eq_false (fun q => q.2 c7)]; rfl) ?_
      subst hQ
      exact W.zret hx hb hr (bI_nar _) (fun t ht _ => ⟨rfl, ht⟩) (fun _ h => nomatch h) dX3_isIn_15
    · skip
      refine lv_iconst (v := 1) hx hb dX3_isIn_10 (by decide) ?_
      refine lv_goto (tgt := 15) hx hb dX3_isIn_11 (by decide) ?_
      refine sp_top (show 1 = bI (isIn x a b) from by unfold isIn; rw [decide_eq_true ⟨c2, c7⟩]; rfl) ?_
      subst hQ
      exact W.zret hx hb hr (bI_nar _) (fun t ht _ => ⟨rfl, ht⟩) (fun _ h => nomatch h) dX3_isIn_15

abbrev rmX3_isTeam : Room := { frames := 1, cells := 0, slots := 0, locals := 22 }
set_option maxHeartbeats 4000000 in
set_option maxRecDepth 100000 in
/-- is there such a team -/
theorem mX3_isTeam (l : Launch) (D : va_G) (cI cT : ClassId) (mo g0 t0 z0 : Nat) (MF : Nat → Int32) (x : Int32) : MetR l D cI cT yX3_isTeam wsX3_isTeam rmX3_isTeam [.ref mo, .int x] [(mo, oM MF g0 t0 z0)] (bI (isIn x 0 (MF 2 - 1))) := by
  refine Met.ofW (cc := cX3_isTeam) (maxL := 2) (ret := (some .boolean)) (by decide) rfl ?_
  intro p e s m args below meth c s₁ B hml hv
  obtain ⟨hargs, hP, hK⟩ := hv
  have hx := B.exec
  have hb := B.bytes
  have hr := B.returns
  have hts := atoms_spec (ws := wsX3_isTeam) B.pre
  have hown : s.vm.findClass RX3 = some m.cls := findClass_of_methodNamed B.named
  have hlocks := B.notSynchronized
  have hiX3 : ∀ w ∈ u_ws RX3 TX3 9, w ∈ wsX3_isTeam := by decide +kernel
  have he : entryFrame m args 2 = F0 m 0 ((lg_sl [.ref mo, .int x] ++ List.replicate (2 - (lg_sl [.ref mo, .int x]).length) Slot.unset).toArray) [] := by rw [hargs]; exact lg_entry_eq m _ _
  rw [he]
  change W p l e rmX3_isTeam s m args below meth c s.heap [] 0 0 (MQ below (QcRead (bI (isIn x 0 (MF 2 - 1)))) args s 0 0 (fun _ => False)) _
  obtain ⟨Q, hQ⟩ : ∃ Q, Q = MQ below (QcRead (bI (isIn x 0 (MF 2 - 1)))) args s 0 0 (fun _ => False) := ⟨_, rfl⟩
  rw [← hQ]
  have hl := lv_entry [.ref mo, .int x] (n := 2) (Nat.le_of_ble_eq_true rfl)
  generalize (lg_sl [.ref mo, .int x] ++ List.replicate (2 - (lg_sl [.ref mo, .int x]).length) Slot.unset).toArray = ls at hl ⊢
  have hl : lv_has ls 2 [(0, .ref mo), (1, .int x)] := hl
  refine lv_iload_n hx hb dX3_isTeam_0 rfl (lv_at hl 1 rfl) ?_
  refine lv_iconst (v := 0) hx hb dX3_isTeam_1 (by decide) ?_
  refine lv_aload_n hx hb dX3_isTeam_2 rfl (lv_at hl 0 rfl) ?_
  refine va_get (D := D) (ci := 3) (v := .int (MF 2)) (C := RX3) (T := TX3) (N := 9) hx hb hts hiX3 hown hK.1 hP 0 rfl rfl 2 (by decide) (hts (.fieldLink RX3 29 "SledgeRaceModel" "teams" "I") (by decide +kernel)) (fun _ h9 => h9) rfl dX3_isTeam_3 ?_
  refine lv_iconst (v := 1) hx hb dX3_isTeam_6 (by decide) ?_
  refine lv_isub hx hb dX3_isTeam_7 ?_
  refine sp_rS (rest := []) (As := [.int x, .int 0, .int ((MF 2) - 1)]) ⟨hx, hb, hml, hown, hts⟩ (mX3_isIn l D cI cT x 0 ((MF 2) - 1)) (va_cwS 3 hts gX3_isTeam_X3_isIn rfl rfl rfl (by decide +kernel) ⟨Nat.le_of_ble_eq_true rfl, Nat.le_of_ble_eq_true rfl⟩) hK (show va_P D vwCl [] _ from fun k q h => by simp at h) rfl hl.1 rfl (Nat.le_of_ble_eq_true rfl) dX3_isTeam_8 ⟨Nat.le_of_ble_eq_true rfl, Nat.le_of_ble_eq_true rfl⟩ ?_
  subst hQ
  exact W.zret hx hb hr (bI_nar _) (fun t ht _ => ⟨rfl, ht⟩) (fun _ h => nomatch h) dX3_isTeam_11

abbrev rmX3_breathe : Room := { frames := 1, cells := 0, slots := 0, locals := 23 }
set_option maxHeartbeats 4000000 in
set_option maxRecDepth 100000 in
/-- breath -/
theorem mX3_breathe (l : Launch) (D : va_G) (cI cT : ClassId) (mo g0 t0 z0 : Nat) (MF : Nat → Int32) (tv : Nat → TV) (i : Nat) (hi6 : i < 6) (F P L G : Nat → Int32) (hT : tv i = (F, P, L, G)) (x : Int32) : MetV l D cI cT yX3_breathe wsX3_breathe rmX3_breathe [.ref mo, .int (nI i), .int x] [(mo, oM MF g0 t0 z0), (t0, aI cI 174 (tab tv))] [] [(mo, oM MF g0 t0 z0), (t0, aI cI 174 (tab (setT tv i (mBreathe x (F, P, L, G)))))] := by
  refine Met.ofW (cc := cX3_breathe) (maxL := 3) (ret := none) (by decide) rfl ?_
  intro p e s m args below meth c s₁ B hml hv
  obtain ⟨hargs, hP, hR0, hK, hN⟩ := hv
  have hx := B.exec
  have hb := B.bytes
  have hr := B.returns
  have hts := atoms_spec (ws := wsX3_breathe) B.pre
  have hown : s.vm.findClass RX3 = some m.cls := findClass_of_methodNamed B.named
  have hlocks := B.notSynchronized
  have hiX3 : ∀ w ∈ u_ws RX3 TX3 9, w ∈ wsX3_breathe := by decide +kernel
  have he : entryFrame m args 3 = F0 m 0 ((lg_sl [.ref mo, .int (nI i), .int x] ++ List.replicate (3 - (lg_sl [.ref mo, .int (nI i), .int x]).length) Slot.unset).toArray) [] := by rw [hargs]; exact lg_entry_eq m _ _
  rw [he]
  change W p l e rmX3_breathe s m args below meth c s.heap [] 0 0 (MQ below (va_Qv (S := Unit) (fun _ => True) (fun _ t => va_P D vwCl [(mo, oM MF g0 t0 z0), (t0, aI cI 174 (tab (setT tv i (mBreathe x (F, P, L, G)))))] t.heap) (fr (List.map Prod.fst [(mo, oM MF g0 t0 z0), (t0, aI cI 174 (tab tv))]))) args s 0 0 (fr (List.map Prod.fst [(mo, oM MF g0 t0 z0), (t0, aI cI 174 (tab tv))]))) _
  obtain ⟨Q, hQ⟩ : ∃ Q, Q = MQ below (va_Qv (S := Unit) (fun _ => True) (fun _ t => va_P D vwCl [(mo, oM MF g0 t0 z0), (t0, aI cI 174 (tab (setT tv i (mBreathe x (F, P, L, G)))))] t.heap) (fr (List.map Prod.fst [(mo, oM MF g0 t0 z0), (t0, aI cI 174 (tab tv))]))) args s 0 0 (fr (List.map Prod.fst [(mo, oM MF g0 t0 z0), (t0, aI cI 174 (tab tv))])) := ⟨_, rfl⟩
  rw [← hQ]
  have hl := lv_entry [.ref mo, .int (nI i), .int x] (n := 3) (Nat.le_of_ble_eq_true rfl)
  generalize (lg_sl [.ref mo, .int (nI i), .int x] ++ List.replicate (3 - (lg_sl [.ref mo, .int (nI i), .int x]).length) Slot.unset).toArray = ls at hl ⊢
  have hl : lv_has ls 3 [(0, .ref mo), (1, .int (nI i)), (2, .int x)] := hl
  obtain ⟨A, hAe⟩ : ∃ A, A = (fr (List.map Prod.fst [(mo, oM MF g0 t0 z0), (t0, aI cI 174 (tab tv))])) := ⟨_, rfl⟩
  have hA0 : ∀ q ∈ List.map Prod.fst [(mo, oM MF g0 t0 z0), (t0, aI cI 174 (tab tv))], A q := by rw [hAe]; exact fun q h => h
  have hD : va_D A [(mo, oM MF g0 t0 z0), (t0, aI cI 174 (tab tv))] := sp_D (List.nodup_append.mp (show (([(mo, oM MF g0 t0 z0), (t0, aI cI 174 (tab tv))] : va_W).map Prod.fst ++ ([] : va_W).map Prod.fst).Nodup by rw [← List.map_append]; exact hN)).1 hA0
  have hN : (List.map Prod.fst ([(mo, oM MF g0 t0 z0), (t0, aI cI 174 (tab tv))] ++ []) : List Nat).Nodup := hN
  have hS : va_S A s.heap s.heap [] := va_S.rf
  obtain ⟨H, hH0⟩ : ∃ H, H = s.heap := ⟨_, rfl⟩
  obtain ⟨locs, hlo⟩ : ∃ L : List Loc, L = [] := ⟨_, rfl⟩
  have hP : va_P D vwCl [(mo, oM MF g0 t0 z0), (t0, aI cI 174 (tab tv))] H := by rw [hH0]; exact hP
  have hS : va_S A s.heap H locs := by rw [hH0, hlo]; exact hS
  rw [show W p l e rmX3_breathe s m args below meth c s.heap [] 0 0 Q (F0 m 0 ls []) = W p l e rmX3_breathe s m args below meth c H locs 0 0 Q (F0 m 0 ls []) by rw [hH0, hlo]]
  clear hH0 hlo
  have hP : va_P D vwCl [(mo, oM MF g0 t0 z0), (t0, aI cI 174 (tab (setT tv i (F, P, L, G))))] H := by rw [← hT, setT_self]; exact hP
  have hD : va_D A [(mo, oM MF g0 t0 z0), (t0, aI cI 174 (tab (setT tv i (F, P, L, G))))] := by rw [← hT, setT_self]; exact hD
  refine lv_aload_n hx hb dX3_breathe_0 rfl (lv_at hl 0 rfl) ?_
  refine lv_iload_n hx hb dX3_breathe_1 rfl (lv_at hl 1 rfl) ?_
  refine lv_bipush (v := 10) hx hb dX3_breathe_2 (by decide) ?_
  refine lv_iconst (v := 0) hx hb dX3_breathe_4 (by decide) ?_
  refine lv_sipush (v := 1000) hx hb dX3_breathe_5 (by decide) ?_
  refine lv_aload_n hx hb dX3_breathe_8 rfl (lv_at hl 0 rfl) ?_
  refine lv_iload_n hx hb dX3_breathe_9 rfl (lv_at hl 1 rfl) ?_
  refine lv_bipush (v := 10) hx hb dX3_breathe_10 (by decide) ?_
  refine sp_rV (rest := [.int 1000, .int 0, .int 10, .int (nI i), .ref mo]) (As := [.int (nI i), .int (nI 10)]) ⟨hx, hb, hml, hown, hts⟩ (mX3_get l D cI cT mo g0 t0 z0 MF (setT tv i (F, P, L, G)) i 10 (F 10) (by omega) (by omega) (by rw [setT_i _ _ _]; rfl)) (cwV 2 hts gX3_breathe_X3_get rfl rfl rfl (by decide +kernel) ⟨Nat.le_of_ble_eq_true rfl, Nat.le_of_ble_eq_true rfl⟩) hK (sp_pick hP [0, 1] rfl) (ci := 3) rfl rfl rfl rfl hl.1 rfl (Nat.le_of_ble_eq_true rfl) dX3_breathe_12 ⟨Nat.le_of_ble_eq_true rfl, Nat.le_of_ble_eq_true rfl⟩ ?_
  refine lv_iload_n hx hb dX3_breathe_15 rfl (lv_at hl 2 rfl) ?_
  refine lv_iload_n hx hb dX3_breathe_16 rfl (lv_at hl 2 rfl) ?_
  refine lv_imul hx hb dX3_breathe_17 ?_
  refine lv_iconst (v := 2) hx hb dX3_breathe_18 (by decide) ?_
  refine lv_idiv hx hb dX3_breathe_19 (by decide) ?_
  refine lv_isub hx hb dX3_breathe_20 ?_
  refine lv_bipush (v := 18) hx hb dX3_breathe_21 (by decide) ?_
  refine lv_iadd hx hb dX3_breathe_23 ?_
  refine va_mmin hx hb (hml.trans hl.1.symm) hown (hts (.methodLink RX3 83 Lib.Math.min.name) (by decide +kernel)) (hts (.static Lib.Math.min.name) (by decide +kernel)) (hts (.initialized "java/lang/Math") (by decide +kernel)) (hts (.code Lib.Math.min.name Lib.Math.min.code 2 (some .int)) (by decide +kernel)) (Nat.le_of_ble_eq_true rfl) (Nat.le_of_ble_eq_true rfl) (Nat.le_of_ble_eq_true rfl) (Nat.le_of_ble_eq_true rfl) dX3_breathe_24 ?_
  change W _ _ _ _ _ _ _ _ _ _ _ _ _ _ _ (F0 m 27 ls (.int (imin 1000 (((F 10) - ((x * x) / 2)) + 18)) :: _))
  refine va_mmax hx hb (hml.trans hl.1.symm) hown (hts (.methodLink RX3 78 Lib.Math.max.name) (by decide +kernel)) (hts (.static Lib.Math.max.name) (by decide +kernel)) (hts (.initialized "java/lang/Math") (by decide +kernel)) (hts (.code Lib.Math.max.name Lib.Math.max.code 2 (some .int)) (by decide +kernel)) (Nat.le_of_ble_eq_true rfl) (Nat.le_of_ble_eq_true rfl) (Nat.le_of_ble_eq_true rfl) (Nat.le_of_ble_eq_true rfl) dX3_breathe_27 ?_
  change W _ _ _ _ _ _ _ _ _ _ _ _ _ _ _ (F0 m 30 ls (.int (imax 0 (imin 1000 (((F 10) - ((x * x) / 2)) + 18))) :: _))
  refine sp_vV (rest := []) (As := [.int (nI i), .int (nI 10), .int (imax 0 (imin 1000 (((F 10) - ((x * x) / 2)) + 18)))]) (W1 := [(mo, oM MF g0 t0 z0), (t0, aI cI 174 (tab (setT (setT tv i (F, P, L, G)) i (upd F 10 (imax 0 (imin 1000 (((F 10) - ((x * x) / 2)) + 18))), P, L, G))))]) ⟨hx, hb, hml, hown, hts⟩ (mX3_set l D cI cT mo g0 t0 z0 MF (setT tv i (F, P, L, G)) i 10 (imax 0 (imin 1000 (((F 10) - ((x * x) / 2)) + 18))) (upd F 10 (imax 0 (imin 1000 (((F 10) - ((x * x) / 2)) + 18))), P, L, G) (by omega) (by omega) (fun b _ => by rw [setT_i _ _ _]; exact rs_F (by decide) b)) (cwV 3 hts gX3_breathe_X3_set rfl rfl rfl (by decide +kernel) ⟨Nat.le_of_ble_eq_true rfl, Nat.le_of_ble_eq_true rfl⟩) hK hP hD hS [0, 1] rfl (fun k q h => by simp at h) (sp_nsub hN [0, 1] (by decide) rfl) rfl rfl rfl (ci := 3) rfl rfl rfl rfl hl.1 rfl (Nat.le_of_ble_eq_true rfl) dX3_breathe_30 ⟨Nat.le_of_ble_eq_true rfl, Nat.le_of_ble_eq_true rfl⟩ (fun H locs hP hD hS => ?_)
  rw [setT_setT] at hP hD
  subst hQ
  have hP9 : va_P D vwCl [(mo, oM MF g0 t0 z0), (t0, aI cI 174 (tab (setT tv i (mBreathe x (F, P, L, G)))))] H := hP
  subst hAe
  exact W.vret hx hb hr (fun t ht hW => ⟨⟨(), rfl, trivial, by show va_P D vwCl _ t.heap; rw [ht]; exact hP9⟩, hS.F ht⟩) hS.2.2 dX3_breathe_33

abbrev rmX3_roll : Room := { frames := 6, cells := 0, slots := 0, locals := 139 }
set_option maxHeartbeats 4000000 in
set_option maxRecDepth 100000 in
/-- the sledge and what lies under it move on -/
theorem mX3_roll (l : Launch) (D : va_G) (cI cT : ClassId) (mo g0 t0 z0 : Nat) (MF : Nat → Int32) (g : Nat → Int32) (tv : Nat → TV) (i : Nat) (hi6 : i < 6) (F P L G : Nat → Int32) (hT : tv i = (F, P, L, G)) (n : Nat) (hn : n ≤ 8) (h2 : F 2 = nI n) (ns : Nat) (hns0 : 0 < ns) (hns : ns ≤ 12) (h5 : MF 5 = nI ns) (hw : ¬ F 1 = 0) : MetV l D cI cT yX3_roll wsX3_roll rmX3_roll [.ref mo, .int (nI i)] [(mo, oM MF g0 t0 z0), (g0, aI cI 39 g), (t0, aI cI 174 (tab tv))] [] [(mo, oM MF g0 t0 z0), (g0, aI cI 39 g), (t0, aI cI 174 (tab (setT tv i (mRoll n g ns (F, P, L, G)))))] := by
  refine Met.ofW (cc := cX3_roll) (maxL := 4) (ret := none) (by decide) rfl ?_
  intro p e s m args below meth c s₁ B hml hv
  obtain ⟨hargs, hP, hR0, hK, hN⟩ := hv
  have hx := B.exec
  have hb := B.bytes
  have hr := B.returns
  have hts := atoms_spec (ws := wsX3_roll) B.pre
  have hown : s.vm.findClass RX3 = some m.cls := findClass_of_methodNamed B.named
  have hlocks := B.notSynchronized
  have hiX3 : ∀ w ∈ u_ws RX3 TX3 9, w ∈ wsX3_roll := by decide +kernel
  have he : entryFrame m args 4 = F0 m 0 ((lg_sl [.ref mo, .int (nI i)] ++ List.replicate (4 - (lg_sl [.ref mo, .int (nI i)]).length) Slot.unset).toArray) [] := by rw [hargs]; exact lg_entry_eq m _ _
  rw [he]
  change W p l e rmX3_roll s m args below meth c s.heap [] 0 0 (MQ below (va_Qv (S := Unit) (fun _ => True) (fun _ t => va_P D vwCl [(mo, oM MF g0 t0 z0), (g0, aI cI 39 g), (t0, aI cI 174 (tab (setT tv i (mRoll n g ns (F, P, L, G)))))] t.heap) (fr (List.map Prod.fst [(mo, oM MF g0 t0 z0), (g0, aI cI 39 g), (t0, aI cI 174 (tab tv))]))) args s 0 0 (fr (List.map Prod.fst [(mo, oM MF g0 t0 z0), (g0, aI cI 39 g), (t0, aI cI 174 (tab tv))]))) _
  obtain ⟨Q, hQ⟩ : ∃ Q, Q = MQ below (va_Qv (S := Unit) (fun _ => True) (fun _ t => va_P D vwCl [(mo, oM MF g0 t0 z0), (g0, aI cI 39 g), (t0, aI cI 174 (tab (setT tv i (mRoll n g ns (F, P, L, G)))))] t.heap) (fr (List.map Prod.fst [(mo, oM MF g0 t0 z0), (g0, aI cI 39 g), (t0, aI cI 174 (tab tv))]))) args s 0 0 (fr (List.map Prod.fst [(mo, oM MF g0 t0 z0), (g0, aI cI 39 g), (t0, aI cI 174 (tab tv))])) := ⟨_, rfl⟩
  rw [← hQ]
  have hl := lv_entry [.ref mo, .int (nI i)] (n := 4) (Nat.le_of_ble_eq_true rfl)
  generalize (lg_sl [.ref mo, .int (nI i)] ++ List.replicate (4 - (lg_sl [.ref mo, .int (nI i)]).length) Slot.unset).toArray = ls at hl ⊢
  have hl : lv_has ls 4 [(0, .ref mo), (1, .int (nI i))] := hl
  obtain ⟨A, hAe⟩ : ∃ A, A = (fr (List.map Prod.fst [(mo, oM MF g0 t0 z0), (g0, aI cI 39 g), (t0, aI cI 174 (tab tv))])) := ⟨_, rfl⟩
  have hA0 : ∀ q ∈ List.map Prod.fst [(mo, oM MF g0 t0 z0), (g0, aI cI 39 g), (t0, aI cI 174 (tab tv))], A q := by rw [hAe]; exact fun q h => h
  have hD : va_D A [(mo, oM MF g0 t0 z0), (g0, aI cI 39 g), (t0, aI cI 174 (tab tv))] := sp_D (List.nodup_append.mp (show (([(mo, oM MF g0 t0 z0), (g0, aI cI 39 g), (t0, aI cI 174 (tab tv))] : va_W).map Prod.fst ++ ([] : va_W).map Prod.fst).Nodup by rw [← List.map_append]; exact hN)).1 hA0
  have hN : (List.map Prod.fst ([(mo, oM MF g0 t0 z0), (g0, aI cI 39 g), (t0, aI cI 174 (tab tv))] ++ []) : List Nat).Nodup := hN
  have hS : va_S A s.heap s.heap [] := va_S.rf
  obtain ⟨H, hH0⟩ : ∃ H, H = s.heap := ⟨_, rfl⟩
  obtain ⟨locs, hlo⟩ : ∃ L : List Loc, L = [] := ⟨_, rfl⟩
  have hP : va_P D vwCl [(mo, oM MF g0 t0 z0), (g0, aI cI 39 g), (t0, aI cI 174 (tab tv))] H := by rw [hH0]; exact hP
  have hS : va_S A s.heap H locs := by rw [hH0, hlo]; exact hS
  rw [show W p l e rmX3_roll s m args below meth c s.heap [] 0 0 Q (F0 m 0 ls []) = W p l e rmX3_roll s m args below meth c H locs 0 0 Q (F0 m 0 ls []) by rw [hH0, hlo]]
  clear hH0 hlo
  have hP : va_P D vwCl [(mo, oM MF g0 t0 z0), (g0, aI cI 39 g), (t0, aI cI 174 (tab (setT tv i (F, P, L, G))))] H := by rw [← hT, setT_self]; exact hP
  have hD : va_D A [(mo, oM MF g0 t0 z0), (g0, aI cI 39 g), (t0, aI cI 174 (tab (setT tv i (F, P, L, G))))] := by rw [← hT, setT_self]; exact hD
  refine lv_aload_n hx hb dX3_roll_0 rfl (lv_at hl 0 rfl) ?_
  refine lv_iload_n hx hb dX3_roll_1 rfl (lv_at hl 1 rfl) ?_
  refine sp_rV (rest := []) (As := [.int (nI i)]) ⟨hx, hb, hml, hown, hts⟩ (mX3_way l D cI cT mo g0 t0 z0 MF g (setT tv i (F, P, L, G)) i (by omega) F P L G (setT_i _ _ _) n hn h2 ns hns0 hns h5 hw) (cwV 1 hts gX3_roll_X3_way rfl rfl rfl (by decide +kernel) ⟨Nat.le_of_ble_eq_true rfl, Nat.le_of_ble_eq_true rfl⟩) hK (sp_pick hP [0, 1, 2] rfl) (ci := 3) rfl rfl rfl rfl hl.1 rfl (Nat.le_of_ble_eq_true rfl) dX3_roll_2 ⟨Nat.le_of_ble_eq_true rfl, Nat.le_of_ble_eq_true rfl⟩ ?_
  refine lv_topi (fun wy ewy => ?_)
  refine lv_istore_n (lv' := [(2, .int wy), (0, .ref mo), (1, .int (nI i))]) hx hb dX3_roll_5 rfl hl (by decide) rfl (fun ls hl => ?_)
  refine lv_iconst (v := nI 0) hx hb dX3_roll_6 (by decide) ?_
  refine lv_istore_n (lv' := [(3, .int (nI 0)), (2, .int wy), (0, .ref mo), (1, .int (nI i))]) hx hb dX3_roll_7 rfl hl (by decide) rfl (fun ls hl => ?_)
  have loop8 : ∀ (fu : Nat) (k : Nat), (n - k) < fu → (k ≤ n) → ∀ (H : Heap) (locs : List Loc), va_P D vwCl [(mo, oM MF g0 t0 z0), (g0, aI cI 39 g), (t0, aI cI 174 (tab (setT tv i (F, mRollP F P L wy k, L, G))))] H → va_D A [(mo, oM MF g0 t0 z0), (g0, aI cI 39 g), (t0, aI cI 174 (tab (setT tv i (F, mRollP F P L wy k, L, G))))] → va_S A s.heap H locs → ∀ (ls : Array Slot), lv_has ls 4 [(3, .int (nI k)), (2, .int wy), (0, .ref mo), (1, .int (nI i))] → W p l e rmX3_roll s m args below meth c H locs 0 0 Q (F0 m 8 ls []) := by
    intro fu
    induction fu with
    | zero => intro k hfu; exact absurd hfu (Nat.not_lt_zero _)
    | succ fu ih8 =>
      intro k hfu8 hk
      intro H locs hP hD hS ls hl
      refine lv_iload_n hx hb dX3_roll_8 rfl (lv_at hl 0 rfl) ?_
      refine lv_aload_n hx hb dX3_roll_9 rfl (lv_at hl 2 rfl) ?_
      refine lv_iload_n hx hb dX3_roll_10 rfl (lv_at hl 3 rfl) ?_
      refine lv_iconst (v := 2) hx hb dX3_roll_11 (by decide) ?_
      refine sp_rV (rest := [.int (nI k)]) (As := [.int (nI i), .int (nI 2)]) ⟨hx, hb, hml, hown, hts⟩ (mX3_get l D cI cT mo g0 t0 z0 MF (setT tv i (F, mRollP F P L wy k, L, G)) i 2 (nI n) (by omega) (by omega) (by rw [setT_i _ _ _]; exact h2)) (cwV 2 hts gX3_roll_X3_get rfl rfl rfl (by decide +kernel) ⟨Nat.le_of_ble_eq_true rfl, Nat.le_of_ble_eq_true rfl⟩) hK (sp_pick hP [0, 2] rfl) (ci := 3) rfl rfl rfl rfl hl.1 rfl (Nat.le_of_ble_eq_true rfl) dX3_roll_12 ⟨Nat.le_of_ble_eq_true rfl, Nat.le_of_ble_eq_true rfl⟩ ?_
      refine sp_ge (by omega) (by omega) (tgt := 55) hx hb dX3_roll_15 (by decide) (fun c15 => ?_) (fun c15 => ?_)
      · skip
        refine lv_aload_n hx hb dX3_roll_55 rfl (lv_at hl 2 rfl) ?_
        refine lv_iload_n hx hb dX3_roll_56 rfl (lv_at hl 3 rfl) ?_
        refine lv_bipush (v := 9) hx hb dX3_roll_57 (by decide) ?_
        refine lv_aload_n hx hb dX3_roll_59 rfl (lv_at hl 2 rfl) ?_
        refine lv_iload_n hx hb dX3_roll_60 rfl (lv_at hl 3 rfl) ?_
        refine lv_bipush (v := 9) hx hb dX3_roll_61 (by decide) ?_
        refine sp_rV (rest := [.int 9, .int (nI i), .ref mo]) (As := [.int (nI i), .int (nI 9)]) ⟨hx, hb, hml, hown, hts⟩ (mX3_get l D cI cT mo g0 t0 z0 MF (setT tv i (F, mRollP F P L wy k, L, G)) i 9 (F 9) (by omega) (by omega) (by rw [setT_i _ _ _]; rfl)) (cwV 2 hts gX3_roll_X3_get rfl rfl rfl (by decide +kernel) ⟨Nat.le_of_ble_eq_true rfl, Nat.le_of_ble_eq_true rfl⟩) hK (sp_pick hP [0, 2] rfl) (ci := 3) rfl rfl rfl rfl hl.1 rfl (Nat.le_of_ble_eq_true rfl) dX3_roll_63 ⟨Nat.le_of_ble_eq_true rfl, Nat.le_of_ble_eq_true rfl⟩ ?_
        refine lv_iload_n hx hb dX3_roll_66 rfl (lv_at hl 1 rfl) ?_
        refine lv_iadd hx hb dX3_roll_67 ?_
        refine sp_vV (rest := []) (As := [.int (nI i), .int (nI 9), .int ((F 9) + wy)]) (W1 := [(mo, oM MF g0 t0 z0), (g0, aI cI 39 g), (t0, aI cI 174 (tab (setT (setT tv i (F, mRollP F P L wy k, L, G)) i (upd F 9 ((F 9) + wy), mRollP F P L wy k, L, G))))]) ⟨hx, hb, hml, hown, hts⟩ (mX3_set l D cI cT mo g0 t0 z0 MF (setT tv i (F, mRollP F P L wy k, L, G)) i 9 ((F 9) + wy) (upd F 9 ((F 9) + wy), mRollP F P L wy k, L, G) (by omega) (by omega) (fun b _ => by rw [setT_i _ _ _]; exact rs_F (by decide) b)) (cwV 3 hts gX3_roll_X3_set rfl rfl rfl (by decide +kernel) ⟨Nat.le_of_ble_eq_true rfl, Nat.le_of_ble_eq_true rfl⟩) hK hP hD hS [0, 2] rfl (fun k q h => by simp at h) (sp_nsub hN [0, 2] (by decide) rfl) rfl rfl rfl (ci := 3) rfl rfl rfl rfl hl.1 rfl (Nat.le_of_ble_eq_true rfl) dX3_roll_68 ⟨Nat.le_of_ble_eq_true rfl, Nat.le_of_ble_eq_true rfl⟩ (fun H locs hP hD hS => ?_)
        rw [setT_setT] at hP hD
        refine lv_aload_n hx hb dX3_roll_71 rfl (lv_at hl 2 rfl) ?_
        refine lv_iload_n hx hb dX3_roll_72 rfl (lv_at hl 3 rfl) ?_
        refine lv_bipush (v := 14) hx hb dX3_roll_73 (by decide) ?_
        refine lv_iload_n hx hb dX3_roll_75 rfl (lv_at hl 1 rfl) ?_
        refine sp_vV (rest := []) (As := [.int (nI i), .int (nI 14), .int wy]) (W1 := [(mo, oM MF g0 t0 z0), (g0, aI cI 39 g), (t0, aI cI 174 (tab (setT (setT tv i (upd F 9 ((F 9) + wy), mRollP F P L wy k, L, G)) i (upd (upd F 9 ((F 9) + wy)) 14 wy, mRollP F P L wy k, L, G))))]) ⟨hx, hb, hml, hown, hts⟩ (mX3_set l D cI cT mo g0 t0 z0 MF (setT tv i (upd F 9 ((F 9) + wy), mRollP F P L wy k, L, G)) i 14 wy (upd (upd F 9 ((F 9) + wy)) 14 wy, mRollP F P L wy k, L, G) (by omega) (by omega) (fun b _ => by rw [setT_i _ _ _]; exact rs_F (by decide) b)) (cwV 3 hts gX3_roll_X3_set rfl rfl rfl (by decide +kernel) ⟨Nat.le_of_ble_eq_true rfl, Nat.le_of_ble_eq_true rfl⟩) hK hP hD hS [0, 2] rfl (fun k q h => by simp at h) (sp_nsub hN [0, 2] (by decide) rfl) rfl rfl rfl (ci := 3) rfl rfl rfl rfl hl.1 rfl (Nat.le_of_ble_eq_true rfl) dX3_roll_76 ⟨Nat.le_of_ble_eq_true rfl, Nat.le_of_ble_eq_true rfl⟩ (fun H locs hP hD hS => ?_)
        rw [setT_setT] at hP hD
        subst hQ
        have hP9 : va_P D vwCl [(mo, oM MF g0 t0 z0), (g0, aI cI 39 g), (t0, aI cI 174 (tab (setT tv i (mRoll n g ns (F, P, L, G)))))] H := by have en : n = k := (by omega); subst en; subst ewy; exact hP
        subst hAe
        exact W.vret hx hb hr (fun t ht hW => ⟨⟨(), rfl, trivial, by show va_P D vwCl _ t.heap; rw [ht]; exact hP9⟩, hS.F ht⟩) hS.2.2 dX3_roll_79
      · skip
        refine lv_aload_n hx hb dX3_roll_18 rfl (lv_at hl 2 rfl) ?_
        refine lv_iload_n hx hb dX3_roll_19 rfl (lv_at hl 3 rfl) ?_
        refine lv_iload_n hx hb dX3_roll_20 rfl (lv_at hl 0 rfl) ?_
        refine sp_rV (rest := []) (As := [.int (nI i), .int (nI k)]) ⟨hx, hb, hml, hown, hts⟩ (mX3_where l D cI cT mo g0 t0 z0 MF (setT tv i (F, mRollP F P L wy k, L, G)) i (by omega) F (mRollP F P L wy k) L G (setT_i _ _ _) k (by omega)) (cwV 2 hts gX3_roll_X3_where rfl rfl rfl (by decide +kernel) ⟨Nat.le_of_ble_eq_true rfl, Nat.le_of_ble_eq_true rfl⟩) hK (sp_pick hP [0, 2] rfl) (ci := 3) rfl rfl rfl rfl hl.1 rfl (Nat.le_of_ble_eq_true rfl) dX3_roll_21 ⟨Nat.le_of_ble_eq_true rfl, Nat.le_of_ble_eq_true rfl⟩ ?_
        refine sp_top (mRollP_side F P L wy k) ?_
        refine lv_if_ne (tgt := 49) hx hb dX3_roll_24 (by decide) (fun c24 => ?_) (fun c24 => ?_)
        · skip
          rw [mRollP_no c24] at hP hD
          refine lv_iinc (v := nI (k + 1)) (lv' := [(3, .int (nI (k + 1))), (2, .int wy), (0, .ref mo), (1, .int (nI i))]) hx hb dX3_roll_49 hl (k := 0) rfl ((nI_1 k)) (by decide) rfl (fun ls hl => ?_)
          refine lv_goto (tgt := 8) hx hb dX3_roll_52 (by decide) ?_
          exact ih8 (k + 1) (by omega) (by omega) _ _ hP hD hS ls (lv_sub hl [0, 1, 2, 3] rfl)
        · skip
          refine lv_aload_n hx hb dX3_roll_27 rfl (lv_at hl 2 rfl) ?_
          refine lv_iload_n hx hb dX3_roll_28 rfl (lv_at hl 3 rfl) ?_
          refine lv_bipush (v := nI 15) hx hb dX3_roll_29 (by decide) ?_
          refine lv_iload_n hx hb dX3_roll_31 rfl (lv_at hl 0 rfl) ?_
          refine lv_iadd hx hb dX3_roll_32 ?_
          refine sp_top (nI_add 15 k : (nI 15) + (nI k) = nI (15 + k)) ?_
          refine lv_aload_n hx hb dX3_roll_33 rfl (lv_at hl 2 rfl) ?_
          refine lv_iload_n hx hb dX3_roll_34 rfl (lv_at hl 3 rfl) ?_
          refine lv_bipush (v := nI 15) hx hb dX3_roll_35 (by decide) ?_
          refine lv_iload_n hx hb dX3_roll_37 rfl (lv_at hl 0 rfl) ?_
          refine lv_iadd hx hb dX3_roll_38 ?_
          refine sp_top (nI_add 15 k : (nI 15) + (nI k) = nI (15 + k)) ?_
          refine sp_rV (rest := [.int (nI (15 + k)), .int (nI i), .ref mo]) (As := [.int (nI i), .int (nI (15 + k))]) ⟨hx, hb, hml, hown, hts⟩ (mX3_get l D cI cT mo g0 t0 z0 MF (setT tv i (F, mRollP F P L wy k, L, G)) i (15 + k) (P k) (by omega) (by omega) (by rw [setT_i _ _ _, row_P _ (by omega)]; exact mRollP_i _ _ _ _ _)) (cwV 2 hts gX3_roll_X3_get rfl rfl rfl (by decide +kernel) ⟨Nat.le_of_ble_eq_true rfl, Nat.le_of_ble_eq_true rfl⟩) hK (sp_pick hP [0, 2] rfl) (ci := 3) rfl rfl rfl rfl hl.1 rfl (Nat.le_of_ble_eq_true rfl) dX3_roll_39 ⟨Nat.le_of_ble_eq_true rfl, Nat.le_of_ble_eq_true rfl⟩ ?_
          refine lv_iload_n hx hb dX3_roll_42 rfl (lv_at hl 1 rfl) ?_
          refine lv_iconst (v := 2) hx hb dX3_roll_43 (by decide) ?_
          refine lv_idiv hx hb dX3_roll_44 (by decide) ?_
          refine lv_iadd hx hb dX3_roll_45 ?_
          refine sp_vV (rest := []) (As := [.int (nI i), .int (nI (15 + k)), .int ((P k) + (wy / 2))]) (W1 := [(mo, oM MF g0 t0 z0), (g0, aI cI 39 g), (t0, aI cI 174 (tab (setT (setT tv i (F, mRollP F P L wy k, L, G)) i (F, upd (mRollP F P L wy k) k ((P k) + (wy / 2)), L, G))))]) ⟨hx, hb, hml, hown, hts⟩ (mX3_set l D cI cT mo g0 t0 z0 MF (setT tv i (F, mRollP F P L wy k, L, G)) i (15 + k) ((P k) + (wy / 2)) (F, upd (mRollP F P L wy k) k ((P k) + (wy / 2)), L, G) (by omega) (by omega) (fun b _ => by rw [setT_i _ _ _]; exact rs_P (by omega) b)) (cwV 3 hts gX3_roll_X3_set rfl rfl rfl (by decide +kernel) ⟨Nat.le_of_ble_eq_true rfl, Nat.le_of_ble_eq_true rfl⟩) hK hP hD hS [0, 2] rfl (fun k q h => by simp at h) (sp_nsub hN [0, 2] (by decide) rfl) rfl rfl rfl (ci := 3) rfl rfl rfl rfl hl.1 rfl (Nat.le_of_ble_eq_true rfl) dX3_roll_46 ⟨Nat.le_of_ble_eq_true rfl, Nat.le_of_ble_eq_true rfl⟩ (fun H locs hP hD hS => ?_)
          rw [setT_setT] at hP hD
          rw [mRollP_up c24] at hP hD
          refine lv_iinc (v := nI (k + 1)) (lv' := [(3, .int (nI (k + 1))), (2, .int wy), (0, .ref mo), (1, .int (nI i))]) hx hb dX3_roll_49 hl (k := 0) rfl ((nI_1 k)) (by decide) rfl (fun ls hl => ?_)
          refine lv_goto (tgt := 8) hx hb dX3_roll_52 (by decide) ?_
          exact ih8 (k + 1) (by omega) (by omega) _ _ hP hD hS ls (lv_sub hl [0, 1, 2, 3] rfl)
  exact loop8 _ 0 (Nat.lt_succ_self _) (Nat.zero_le _) _ _ (by rw [mRollP_0]; exact hP) (by rw [mRollP_0]; exact hD) hS ls (lv_sub hl [0, 1, 2, 3] rfl)

abbrev rmX3_runner : Room := { frames := 3, cells := 0, slots := 0, locals := 68 }
set_option maxHeartbeats 4000000 in
set_option maxRecDepth 100000 in
/-- a runner goes -/
theorem mX3_runner (l : Launch) (D : va_G) (cI cT : ClassId) (mo g0 t0 z0 : Nat) (MF : Nat → Int32) (tv : Nat → TV) (i : Nat) (hi6 : i < 6) (F P L G : Nat → Int32) (hT : tv i = (F, P, L, G)) (n : Nat) (hn : n ≤ 8) (h2 : F 2 = nI n) (r : Nat) (hr3 : r < 3) (hL : mHold L) : MetV l D cI cT yX3_runner wsX3_runner rmX3_runner [.ref mo, .int (nI i), .int (nI r)] [(mo, oM MF g0 t0 z0), (t0, aI cI 174 (tab tv))] [] [(mo, oM MF g0 t0 z0), (t0, aI cI 174 (tab (setT tv i (mRun n r (F, P, L, G)))))] := by
  refine Met.ofW (cc := cX3_runner) (maxL := 5) (ret := none) (by decide) rfl ?_
  intro p e s m args below meth c s₁ B hml hv
  obtain ⟨hargs, hP, hR0, hK, hN⟩ := hv
  have hx := B.exec
  have hb := B.bytes
  have hr := B.returns
  have hts := atoms_spec (ws := wsX3_runner) B.pre
  have hown : s.vm.findClass RX3 = some m.cls := findClass_of_methodNamed B.named
  have hlocks := B.notSynchronized
  have hiX3 : ∀ w ∈ u_ws RX3 TX3 9, w ∈ wsX3_runner := by decide +kernel
  have he : entryFrame m args 5 = F0 m 0 ((lg_sl [.ref mo, .int (nI i), .int (nI r)] ++ List.replicate (5 - (lg_sl [.ref mo, .int (nI i), .int (nI r)]).length) Slot.unset).toArray) [] := by rw [hargs]; exact lg_entry_eq m _ _
  rw [he]
  change W p l e rmX3_runner s m args below meth c s.heap [] 0 0 (MQ below (va_Qv (S := Unit) (fun _ => True) (fun _ t => va_P D vwCl [(mo, oM MF g0 t0 z0), (t0, aI cI 174 (tab (setT tv i (mRun n r (F, P, L, G)))))] t.heap) (fr (List.map Prod.fst [(mo, oM MF g0 t0 z0), (t0, aI cI 174 (tab tv))]))) args s 0 0 (fr (List.map Prod.fst [(mo, oM MF g0 t0 z0), (t0, aI cI 174 (tab tv))]))) _
  obtain ⟨Q, hQ⟩ : ∃ Q, Q = MQ below (va_Qv (S := Unit) (fun _ => True) (fun _ t => va_P D vwCl [(mo, oM MF g0 t0 z0), (t0, aI cI 174 (tab (setT tv i (mRun n r (F, P, L, G)))))] t.heap) (fr (List.map Prod.fst [(mo, oM MF g0 t0 z0), (t0, aI cI 174 (tab tv))]))) args s 0 0 (fr (List.map Prod.fst [(mo, oM MF g0 t0 z0), (t0, aI cI 174 (tab tv))])) := ⟨_, rfl⟩
  rw [← hQ]
  have hl := lv_entry [.ref mo, .int (nI i), .int (nI r)] (n := 5) (Nat.le_of_ble_eq_true rfl)
  generalize (lg_sl [.ref mo, .int (nI i), .int (nI r)] ++ List.replicate (5 - (lg_sl [.ref mo, .int (nI i), .int (nI r)]).length) Slot.unset).toArray = ls at hl ⊢
  have hl : lv_has ls 5 [(0, .ref mo), (1, .int (nI i)), (2, .int (nI r))] := hl
  obtain ⟨A, hAe⟩ : ∃ A, A = (fr (List.map Prod.fst [(mo, oM MF g0 t0 z0), (t0, aI cI 174 (tab tv))])) := ⟨_, rfl⟩
  have hA0 : ∀ q ∈ List.map Prod.fst [(mo, oM MF g0 t0 z0), (t0, aI cI 174 (tab tv))], A q := by rw [hAe]; exact fun q h => h
  have hD : va_D A [(mo, oM MF g0 t0 z0), (t0, aI cI 174 (tab tv))] := sp_D (List.nodup_append.mp (show (([(mo, oM MF g0 t0 z0), (t0, aI cI 174 (tab tv))] : va_W).map Prod.fst ++ ([] : va_W).map Prod.fst).Nodup by rw [← List.map_append]; exact hN)).1 hA0
  have hN : (List.map Prod.fst ([(mo, oM MF g0 t0 z0), (t0, aI cI 174 (tab tv))] ++ []) : List Nat).Nodup := hN
  have hS : va_S A s.heap s.heap [] := va_S.rf
  obtain ⟨H, hH0⟩ : ∃ H, H = s.heap := ⟨_, rfl⟩
  obtain ⟨locs, hlo⟩ : ∃ L : List Loc, L = [] := ⟨_, rfl⟩
  have hP : va_P D vwCl [(mo, oM MF g0 t0 z0), (t0, aI cI 174 (tab tv))] H := by rw [hH0]; exact hP
  have hS : va_S A s.heap H locs := by rw [hH0, hlo]; exact hS
  rw [show W p l e rmX3_runner s m args below meth c s.heap [] 0 0 Q (F0 m 0 ls []) = W p l e rmX3_runner s m args below meth c H locs 0 0 Q (F0 m 0 ls []) by rw [hH0, hlo]]
  clear hH0 hlo
  have hP : va_P D vwCl [(mo, oM MF g0 t0 z0), (t0, aI cI 174 (tab (setT tv i (F, P, L, G))))] H := by rw [← hT, setT_self]; exact hP
  have hD : va_D A [(mo, oM MF g0 t0 z0), (t0, aI cI 174 (tab (setT tv i (F, P, L, G))))] := by rw [← hT, setT_self]; exact hD
  refine lv_aload_n hx hb dX3_runner_0 rfl (lv_at hl 0 rfl) ?_
  refine lv_iload_n hx hb dX3_runner_1 rfl (lv_at hl 1 rfl) ?_
  refine lv_bipush (v := nI 23) hx hb dX3_runner_2 (by decide) ?_
  refine lv_iload_n hx hb dX3_runner_4 rfl (lv_at hl 2 rfl) ?_
  refine lv_iadd hx hb dX3_runner_5 ?_
  refine sp_top (nI_add 23 r : (nI 23) + (nI r) = nI (23 + r)) ?_
  refine sp_rV (rest := []) (As := [.int (nI i), .int (nI (23 + r))]) ⟨hx, hb, hml, hown, hts⟩ (mX3_get l D cI cT mo g0 t0 z0 MF (setT tv i (F, P, L, G)) i (23 + r) (L r) (by omega) (by omega) (by rw [setT_i _ _ _, row_L _ (by omega)])) (cwV 2 hts gX3_runner_X3_get rfl rfl rfl (by decide +kernel) ⟨Nat.le_of_ble_eq_true rfl, Nat.le_of_ble_eq_true rfl⟩) hK (sp_pick hP [0, 1] rfl) (ci := 3) rfl rfl rfl rfl hl.1 rfl (Nat.le_of_ble_eq_true rfl) dX3_runner_6 ⟨Nat.le_of_ble_eq_true rfl, Nat.le_of_ble_eq_true rfl⟩ ?_
  refine lv_iconst (v := (-1)) hx hb dX3_runner_9 (by decide) ?_
  refine lv_icmp_eq (tgt := 89) hx hb dX3_runner_10 (by decide) (fun c10 => ?_) (fun c10 => ?_)
  · skip
    refine lv_iconst (v := (-1)) hx hb dX3_runner_89 (by decide) ?_
    refine lv_istore_n (lv' := [(3, .int (-1)), (0, .ref mo), (1, .int (nI i)), (2, .int (nI r))]) hx hb dX3_runner_90 rfl hl (by decide) rfl (fun ls hl => ?_)
    refine lv_aload_n hx hb dX3_runner_91 rfl (lv_at hl 1 rfl) ?_
    refine lv_iload_n hx hb dX3_runner_92 rfl (lv_at hl 2 rfl) ?_
    refine lv_iconst (v := 2) hx hb dX3_runner_93 (by decide) ?_
    refine sp_rV (rest := []) (As := [.int (nI i), .int (nI 2)]) ⟨hx, hb, hml, hown, hts⟩ (mX3_get l D cI cT mo g0 t0 z0 MF (setT tv i (F, P, L, G)) i 2 (nI n) (by omega) (by omega) (by rw [setT_i _ _ _]; exact h2)) (cwV 2 hts gX3_runner_X3_get rfl rfl rfl (by decide +kernel) ⟨Nat.le_of_ble_eq_true rfl, Nat.le_of_ble_eq_true rfl⟩) hK (sp_pick hP [0, 1] rfl) (ci := 3) rfl rfl rfl rfl hl.1 rfl (Nat.le_of_ble_eq_true rfl) dX3_runner_94 ⟨Nat.le_of_ble_eq_true rfl, Nat.le_of_ble_eq_true rfl⟩ ?_
    refine lv_iconst (v := 1) hx hb dX3_runner_97 (by decide) ?_
    refine lv_isub hx hb dX3_runner_98 ?_
    refine lv_istore (lv' := [(4, .int ((nI n) - 1)), (3, .int (-1)), (0, .ref mo), (1, .int (nI i)), (2, .int (nI r))]) hx hb dX3_runner_99 hl (by decide) rfl (fun ls hl => ?_)
    have loop101 : ∀ (fu : Nat) (k : Nat) (x : Int32) (f : Int32), k < fu → (k ≤ n) → (x = nI k - 1) → (f = -1 ∨ ∃ j : Nat, j < 8 ∧ f = nI j) → (mFd F P L n (-1) = mFd F P L k f) → ∀ (H : Heap) (locs : List Loc), va_P D vwCl [(mo, oM MF g0 t0 z0), (t0, aI cI 174 (tab (setT tv i (F, P, L, G))))] H → va_D A [(mo, oM MF g0 t0 z0), (t0, aI cI 174 (tab (setT tv i (F, P, L, G))))] → va_S A s.heap H locs → ∀ (ls : Array Slot), lv_has ls 5 [(4, .int x), (3, .int f), (0, .ref mo), (1, .int (nI i)), (2, .int (nI r))] → W p l e rmX3_runner s m args below meth c H locs 0 0 Q (F0 m 101 ls []) := by
      intro fu
      induction fu with
      | zero => intro k x f hfu; exact absurd hfu (Nat.not_lt_zero _)
      | succ fu ih101 =>
        intro k x f hfu101 hk ex hf hF
        intro H locs hP hD hS ls hl
        refine lv_iload hx hb dX3_runner_101 (lv_at hl 0 rfl) ?_
        refine lv_if_lt (tgt := 153) hx hb dX3_runner_103 (by decide) (fun c103 => ?_) (fun c103 => ?_)
        · skip
          have ek := sp_dec0 ex c103 (by omega)
          subst ek
          have hF2 : mFd F P L n (-1) = f := hF
          refine lv_iload_n hx hb dX3_runner_153 rfl (lv_at hl 1 rfl) ?_
          refine lv_iconst (v := (-1)) hx hb dX3_runner_154 (by decide) ?_
          refine lv_icmp_ne (tgt := 159) hx hb dX3_runner_155 (by decide) (fun c155 => ?_) (fun c155 => ?_)
          · skip
            obtain ⟨j, hj8, ej⟩ : ∃ j : Nat, j < 8 ∧ f = nI j := hf.resolve_left c155
            subst ej
            refine lv_aload_n hx hb dX3_runner_159 rfl (lv_at hl 2 rfl) ?_
            refine lv_iload_n hx hb dX3_runner_160 rfl (lv_at hl 3 rfl) ?_
            refine lv_bipush (v := nI 23) hx hb dX3_runner_161 (by decide) ?_
            refine lv_iload_n hx hb dX3_runner_163 rfl (lv_at hl 4 rfl) ?_
            refine lv_iadd hx hb dX3_runner_164 ?_
            refine sp_top (nI_add 23 r : (nI 23) + (nI r) = nI (23 + r)) ?_
            refine lv_iload_n hx hb dX3_runner_165 rfl (lv_at hl 1 rfl) ?_
            refine sp_vV (rest := []) (As := [.int (nI i), .int (nI (23 + r)), .int (nI j)]) (W1 := [(mo, oM MF g0 t0 z0), (t0, aI cI 174 (tab (setT (setT tv i (F, P, L, G)) i (F, P, upd L r (nI j), G))))]) ⟨hx, hb, hml, hown, hts⟩ (mX3_set l D cI cT mo g0 t0 z0 MF (setT tv i (F, P, L, G)) i (23 + r) (nI j) (F, P, upd L r (nI j), G) (by omega) (by omega) (fun b _ => by rw [setT_i _ _ _]; exact rs_L (by omega) b)) (cwV 3 hts gX3_runner_X3_set rfl rfl rfl (by decide +kernel) ⟨Nat.le_of_ble_eq_true rfl, Nat.le_of_ble_eq_true rfl⟩) hK hP hD hS [0, 1] rfl (fun k q h => by simp at h) (sp_nsub hN [0, 1] (by decide) rfl) rfl rfl rfl (ci := 3) rfl rfl rfl rfl hl.1 rfl (Nat.le_of_ble_eq_true rfl) dX3_runner_166 ⟨Nat.le_of_ble_eq_true rfl, Nat.le_of_ble_eq_true rfl⟩ (fun H locs hP hD hS => ?_)
            rw [setT_setT] at hP hD
            refine lv_aload_n hx hb dX3_runner_169 rfl (lv_at hl 2 rfl) ?_
            refine lv_iload_n hx hb dX3_runner_170 rfl (lv_at hl 3 rfl) ?_
            refine lv_bipush (v := nI 26) hx hb dX3_runner_171 (by decide) ?_
            refine lv_iload_n hx hb dX3_runner_173 rfl (lv_at hl 4 rfl) ?_
            refine lv_iadd hx hb dX3_runner_174 ?_
            refine sp_top (nI_add 26 r : (nI 26) + (nI r) = nI (26 + r)) ?_
            refine lv_aload_n hx hb dX3_runner_175 rfl (lv_at hl 2 rfl) ?_
            refine lv_iload_n hx hb dX3_runner_176 rfl (lv_at hl 3 rfl) ?_
            refine lv_bipush (v := 9) hx hb dX3_runner_177 (by decide) ?_
            refine sp_rV (rest := [.int (nI (26 + r)), .int (nI i), .ref mo]) (As := [.int (nI i), .int (nI 9)]) ⟨hx, hb, hml, hown, hts⟩ (mX3_get l D cI cT mo g0 t0 z0 MF (setT tv i (F, P, upd L r (nI j), G)) i 9 (F 9) (by omega) (by omega) (by rw [setT_i _ _ _]; rfl)) (cwV 2 hts gX3_runner_X3_get rfl rfl rfl (by decide +kernel) ⟨Nat.le_of_ble_eq_true rfl, Nat.le_of_ble_eq_true rfl⟩) hK (sp_pick hP [0, 1] rfl) (ci := 3) rfl rfl rfl rfl hl.1 rfl (Nat.le_of_ble_eq_true rfl) dX3_runner_179 ⟨Nat.le_of_ble_eq_true rfl, Nat.le_of_ble_eq_true rfl⟩ ?_
            refine lv_aload_n hx hb dX3_runner_182 rfl (lv_at hl 2 rfl) ?_
            refine lv_iload_n hx hb dX3_runner_183 rfl (lv_at hl 3 rfl) ?_
            refine lv_bipush (v := 8) hx hb dX3_runner_184 (by decide) ?_
            refine sp_rV (rest := [.int (F 9), .int (nI (26 + r)), .int (nI i), .ref mo]) (As := [.int (nI i), .int (nI 8)]) ⟨hx, hb, hml, hown, hts⟩ (mX3_get l D cI cT mo g0 t0 z0 MF (setT tv i (F, P, upd L r (nI j), G)) i 8 (F 8) (by omega) (by omega) (by rw [setT_i _ _ _]; rfl)) (cwV 2 hts gX3_runner_X3_get rfl rfl rfl (by decide +kernel) ⟨Nat.le_of_ble_eq_true rfl, Nat.le_of_ble_eq_true rfl⟩) hK (sp_pick hP [0, 1] rfl) (ci := 3) rfl rfl rfl rfl hl.1 rfl (Nat.le_of_ble_eq_true rfl) dX3_runner_186 ⟨Nat.le_of_ble_eq_true rfl, Nat.le_of_ble_eq_true rfl⟩ ?_
            refine lv_iadd hx hb dX3_runner_189 ?_
            refine lv_aload_n hx hb dX3_runner_190 rfl (lv_at hl 2 rfl) ?_
            refine lv_iload_n hx hb dX3_runner_191 rfl (lv_at hl 3 rfl) ?_
            refine lv_bipush (v := nI 15) hx hb dX3_runner_192 (by decide) ?_
            refine lv_iload_n hx hb dX3_runner_194 rfl (lv_at hl 1 rfl) ?_
            refine lv_iadd hx hb dX3_runner_195 ?_
            refine sp_top (nI_add 15 j : (nI 15) + (nI j) = nI (15 + j)) ?_
            refine sp_rV (rest := [.int ((F 9) + (F 8)), .int (nI (26 + r)), .int (nI i), .ref mo]) (As := [.int (nI i), .int (nI (15 + j))]) ⟨hx, hb, hml, hown, hts⟩ (mX3_get l D cI cT mo g0 t0 z0 MF (setT tv i (F, P, upd L r (nI j), G)) i (15 + j) (P j) (by omega) (by omega) (by rw [setT_i _ _ _, row_P _ (by omega)])) (cwV 2 hts gX3_runner_X3_get rfl rfl rfl (by decide +kernel) ⟨Nat.le_of_ble_eq_true rfl, Nat.le_of_ble_eq_true rfl⟩) hK (sp_pick hP [0, 1] rfl) (ci := 3) rfl rfl rfl rfl hl.1 rfl (Nat.le_of_ble_eq_true rfl) dX3_runner_196 ⟨Nat.le_of_ble_eq_true rfl, Nat.le_of_ble_eq_true rfl⟩ ?_
            refine lv_isub hx hb dX3_runner_199 ?_
            refine lv_bipush (v := 12) hx hb dX3_runner_200 (by decide) ?_
            refine lv_idiv hx hb dX3_runner_202 (by decide) ?_
            refine lv_iconst (v := 2) hx hb dX3_runner_203 (by decide) ?_
            refine lv_iadd hx hb dX3_runner_204 ?_
            refine sp_vV (rest := []) (As := [.int (nI i), .int (nI (26 + r)), .int (((((F 9) + (F 8)) - (P j)) / 12) + 2)]) (W1 := [(mo, oM MF g0 t0 z0), (t0, aI cI 174 (tab (setT (setT tv i (F, P, upd L r (nI j), G)) i (F, P, upd L r (nI j), upd G r (((((F 9) + (F 8)) - (P j)) / 12) + 2)))))]) ⟨hx, hb, hml, hown, hts⟩ (mX3_set l D cI cT mo g0 t0 z0 MF (setT tv i (F, P, upd L r (nI j), G)) i (26 + r) (((((F 9) + (F 8)) - (P j)) / 12) + 2) (F, P, upd L r (nI j), upd G r (((((F 9) + (F 8)) - (P j)) / 12) + 2)) (by omega) (by omega) (fun b _ => by rw [setT_i _ _ _]; exact rs_G (by omega) b)) (cwV 3 hts gX3_runner_X3_set rfl rfl rfl (by decide +kernel) ⟨Nat.le_of_ble_eq_true rfl, Nat.le_of_ble_eq_true rfl⟩) hK hP hD hS [0, 1] rfl (fun k q h => by simp at h) (sp_nsub hN [0, 1] (by decide) rfl) rfl rfl rfl (ci := 3) rfl rfl rfl rfl hl.1 rfl (Nat.le_of_ble_eq_true rfl) dX3_runner_205 ⟨Nat.le_of_ble_eq_true rfl, Nat.le_of_ble_eq_true rfl⟩ (fun H locs hP hD hS => ?_)
            rw [setT_setT] at hP hD
            subst hQ
            have hP9 : va_P D vwCl [(mo, oM MF g0 t0 z0), (t0, aI cI 174 (tab (setT tv i (mRun n r (F, P, L, G)))))] H := by rw [show mRun n r (F, P, L, G) = (F, P, upd L r (nI j), upd G r (((((F 9) + (F 8)) - (P j)) / 12) + 2)) from by unfold mRun; rw [if_pos c10, if_neg (fun q => c155 (hF2.symm.trans q))]; show (F, P, upd L r (mFd F P L n (-1)), upd G r ((F 9 + F 8 - P (mFd F P L n (-1)).toNatClampNeg) / 12 + 2)) = _; rw [hF2, nI_clamp (by omega)]]; exact hP
            subst hAe
            exact W.vret hx hb hr (fun t ht hW => ⟨⟨(), rfl, trivial, by show va_P D vwCl _ t.heap; rw [ht]; exact hP9⟩, hS.F ht⟩) hS.2.2 dX3_runner_208
          · skip
            subst hQ
            have hP9 : va_P D vwCl [(mo, oM MF g0 t0 z0), (t0, aI cI 174 (tab (setT tv i (mRun n r (F, P, L, G)))))] H := by rw [show mRun n r (F, P, L, G) = (F, P, L, G) from by unfold mRun; rw [if_pos c10, if_pos (hF2.trans c155)]]; exact hP
            subst hAe
            exact W.vret hx hb hr (fun t ht hW => ⟨⟨(), rfl, trivial, by show va_P D vwCl _ t.heap; rw [ht]; exact hP9⟩, hS.F ht⟩) hS.2.2 dX3_runner_158
        · skip
          obtain ⟨k', rfl, rfl⟩ := sp_dec1 ex c103
          refine lv_aload_n hx hb dX3_runner_106 rfl (lv_at hl 2 rfl) ?_
          refine lv_iload_n hx hb dX3_runner_107 rfl (lv_at hl 3 rfl) ?_
          refine lv_iload hx hb dX3_runner_108 (lv_at hl 0 rfl) ?_
          refine sp_rV (rest := []) (As := [.int (nI i), .int (nI k')]) ⟨hx, hb, hml, hown, hts⟩ (mX3_where l D cI cT mo g0 t0 z0 MF (setT tv i (F, P, L, G)) i (by omega) F P L G (setT_i _ _ _) k' (by omega)) (cwV 2 hts gX3_runner_X3_where rfl rfl rfl (by decide +kernel) ⟨Nat.le_of_ble_eq_true rfl, Nat.le_of_ble_eq_true rfl⟩) hK (sp_pick hP [0, 1] rfl) (ci := 3) rfl rfl rfl rfl hl.1 rfl (Nat.le_of_ble_eq_true rfl) dX3_runner_110 ⟨Nat.le_of_ble_eq_true rfl, Nat.le_of_ble_eq_true rfl⟩ ?_
          refine lv_iconst (v := 1) hx hb dX3_runner_113 (by decide) ?_
          refine lv_icmp_ne (tgt := 147) hx hb dX3_runner_114 (by decide) (fun c114 => ?_) (fun c114 => ?_)
          · skip
            refine lv_iinc (v := (nI k') + (-1)) (lv' := [(4, .int ((nI k') + (-1))), (3, .int f), (0, .ref mo), (1, .int (nI i)), (2, .int (nI r))]) hx hb dX3_runner_147 hl (k := 0) rfl (rfl) (by decide) rfl (fun ls hl => ?_)
            refine lv_goto (tgt := 101) hx hb dX3_runner_150 (by decide) ?_
            exact ih101 k' ((nI k') + (-1)) f (by omega) (by omega) (by rw [Int32.sub_eq_add_neg]) (hf) (by rw [hF, mFd, if_neg (fun q => c114 q.1)]) _ _ hP hD hS ls (lv_sub hl [0, 1, 2, 3, 4] rfl)
          · skip
            refine lv_iload_n hx hb dX3_runner_117 rfl (lv_at hl 1 rfl) ?_
            refine lv_iconst (v := (-1)) hx hb dX3_runner_118 (by decide) ?_
            refine lv_icmp_eq (tgt := 144) hx hb dX3_runner_119 (by decide) (fun c119 => ?_) (fun c119 => ?_)
            · skip
              refine lv_iload hx hb dX3_runner_144 (lv_at hl 0 rfl) ?_
              refine lv_istore_n (lv' := [(3, .int (nI k')), (4, .int (nI k')), (0, .ref mo), (1, .int (nI i)), (2, .int (nI r))]) hx hb dX3_runner_146 rfl hl (by decide) rfl (fun ls hl => ?_)
              refine lv_iinc (v := (nI k') + (-1)) (lv' := [(4, .int ((nI k') + (-1))), (3, .int (nI k')), (0, .ref mo), (1, .int (nI i)), (2, .int (nI r))]) hx hb dX3_runner_147 hl (k := 1) rfl (rfl) (by decide) rfl (fun ls hl => ?_)
              refine lv_goto (tgt := 101) hx hb dX3_runner_150 (by decide) ?_
              exact ih101 k' ((nI k') + (-1)) (nI k') (by omega) (by omega) (by rw [Int32.sub_eq_add_neg]) (Or.inr ⟨k', by omega, rfl⟩) (by rw [hF, mFd, if_pos ⟨c114, Or.inl c119⟩]) _ _ hP hD hS ls (lv_sub hl [0, 1, 2, 3, 4] rfl)
            · skip
              obtain ⟨j, hj8, ej⟩ : ∃ j : Nat, j < 8 ∧ f = nI j := hf.resolve_left c119
              subst ej
              refine lv_aload_n hx hb dX3_runner_122 rfl (lv_at hl 2 rfl) ?_
              refine lv_iload_n hx hb dX3_runner_123 rfl (lv_at hl 3 rfl) ?_
              refine lv_bipush (v := nI 15) hx hb dX3_runner_124 (by decide) ?_
              refine lv_iload hx hb dX3_runner_126 (lv_at hl 0 rfl) ?_
              refine lv_iadd hx hb dX3_runner_128 ?_
              refine sp_top (nI_add 15 k' : (nI 15) + (nI k') = nI (15 + k')) ?_
              refine sp_rV (rest := []) (As := [.int (nI i), .int (nI (15 + k'))]) ⟨hx, hb, hml, hown, hts⟩ (mX3_get l D cI cT mo g0 t0 z0 MF (setT tv i (F, P, L, G)) i (15 + k') (P k') (by omega) (by omega) (by rw [setT_i _ _ _, row_P _ (by omega)])) (cwV 2 hts gX3_runner_X3_get rfl rfl rfl (by decide +kernel) ⟨Nat.le_of_ble_eq_true rfl, Nat.le_of_ble_eq_true rfl⟩) hK (sp_pick hP [0, 1] rfl) (ci := 3) rfl rfl rfl rfl hl.1 rfl (Nat.le_of_ble_eq_true rfl) dX3_runner_129 ⟨Nat.le_of_ble_eq_true rfl, Nat.le_of_ble_eq_true rfl⟩ ?_
              refine lv_aload_n hx hb dX3_runner_132 rfl (lv_at hl 2 rfl) ?_
              refine lv_iload_n hx hb dX3_runner_133 rfl (lv_at hl 3 rfl) ?_
              refine lv_bipush (v := nI 15) hx hb dX3_runner_134 (by decide) ?_
              refine lv_iload_n hx hb dX3_runner_136 rfl (lv_at hl 1 rfl) ?_
              refine lv_iadd hx hb dX3_runner_137 ?_
              refine sp_top (nI_add 15 j : (nI 15) + (nI j) = nI (15 + j)) ?_
              refine sp_rV (rest := [.int (P k')]) (As := [.int (nI i), .int (nI (15 + j))]) ⟨hx, hb, hml, hown, hts⟩ (mX3_get l D cI cT mo g0 t0 z0 MF (setT tv i (F, P, L, G)) i (15 + j) (P j) (by omega) (by omega) (by rw [setT_i _ _ _, row_P _ (by omega)])) (cwV 2 hts gX3_runner_X3_get rfl rfl rfl (by decide +kernel) ⟨Nat.le_of_ble_eq_true rfl, Nat.le_of_ble_eq_true rfl⟩) hK (sp_pick hP [0, 1] rfl) (ci := 3) rfl rfl rfl rfl hl.1 rfl (Nat.le_of_ble_eq_true rfl) dX3_runner_138 ⟨Nat.le_of_ble_eq_true rfl, Nat.le_of_ble_eq_true rfl⟩ ?_
              refine lv_icmp_gt (tgt := 147) hx hb dX3_runner_141 (by decide) (fun c141 => ?_) (fun c141 => ?_)
              · skip
                refine lv_iinc (v := (nI k') + (-1)) (lv' := [(4, .int ((nI k') + (-1))), (3, .int (nI j)), (0, .ref mo), (1, .int (nI i)), (2, .int (nI r))]) hx hb dX3_runner_147 hl (k := 0) rfl (rfl) (by decide) rfl (fun ls hl => ?_)
                refine lv_goto (tgt := 101) hx hb dX3_runner_150 (by decide) ?_
                exact ih101 k' ((nI k') + (-1)) (nI j) (by omega) (by omega) (by rw [Int32.sub_eq_add_neg]) (Or.inr ⟨j, hj8, rfl⟩) (by rw [hF, mFd, if_neg (fun q => q.2.elim c119 (fun z => z (by rw [nI_clamp (by omega)]; exact c141)))]) _ _ hP hD hS ls (lv_sub hl [0, 1, 2, 3, 4] rfl)
              · skip
                refine lv_iload hx hb dX3_runner_144 (lv_at hl 0 rfl) ?_
                refine lv_istore_n (lv' := [(3, .int (nI k')), (4, .int (nI k')), (0, .ref mo), (1, .int (nI i)), (2, .int (nI r))]) hx hb dX3_runner_146 rfl hl (by decide) rfl (fun ls hl => ?_)
                refine lv_iinc (v := (nI k') + (-1)) (lv' := [(4, .int ((nI k') + (-1))), (3, .int (nI k')), (0, .ref mo), (1, .int (nI i)), (2, .int (nI r))]) hx hb dX3_runner_147 hl (k := 1) rfl (rfl) (by decide) rfl (fun ls hl => ?_)
                refine lv_goto (tgt := 101) hx hb dX3_runner_150 (by decide) ?_
                exact ih101 k' ((nI k') + (-1)) (nI k') (by omega) (by omega) (by rw [Int32.sub_eq_add_neg]) (Or.inr ⟨k', by omega, rfl⟩) (by rw [hF, mFd, if_pos ⟨c114, Or.inr (by rw [nI_clamp (by omega)]; exact c141)⟩]) _ _ hP hD hS ls (lv_sub hl [0, 1, 2, 3, 4] rfl)
    exact loop101 _ n ((nI n) - 1) (-1) (Nat.lt_succ_self _) (Nat.le_refl _) (rfl) (Or.inl rfl) (rfl) _ _ hP hD hS ls (lv_sub hl [0, 1, 2, 3, 4] rfl)
  · skip
    refine lv_aload_n hx hb dX3_runner_13 rfl (lv_at hl 0 rfl) ?_
    refine lv_iload_n hx hb dX3_runner_14 rfl (lv_at hl 1 rfl) ?_
    refine lv_bipush (v := nI 26) hx hb dX3_runner_15 (by decide) ?_
    refine lv_iload_n hx hb dX3_runner_17 rfl (lv_at hl 2 rfl) ?_
    refine lv_iadd hx hb dX3_runner_18 ?_
    refine sp_top (nI_add 26 r : (nI 26) + (nI r) = nI (26 + r)) ?_
    refine lv_aload_n hx hb dX3_runner_19 rfl (lv_at hl 0 rfl) ?_
    refine lv_iload_n hx hb dX3_runner_20 rfl (lv_at hl 1 rfl) ?_
    refine lv_bipush (v := nI 26) hx hb dX3_runner_21 (by decide) ?_
    refine lv_iload_n hx hb dX3_runner_23 rfl (lv_at hl 2 rfl) ?_
    refine lv_iadd hx hb dX3_runner_24 ?_
    refine sp_top (nI_add 26 r : (nI 26) + (nI r) = nI (26 + r)) ?_
    refine sp_rV (rest := [.int (nI (26 + r)), .int (nI i), .ref mo]) (As := [.int (nI i), .int (nI (26 + r))]) ⟨hx, hb, hml, hown, hts⟩ (mX3_get l D cI cT mo g0 t0 z0 MF (setT tv i (F, P, L, G)) i (26 + r) (G r) (by omega) (by omega) (by rw [setT_i _ _ _, row_G _ _])) (cwV 2 hts gX3_runner_X3_get rfl rfl rfl (by decide +kernel) ⟨Nat.le_of_ble_eq_true rfl, Nat.le_of_ble_eq_true rfl⟩) hK (sp_pick hP [0, 1] rfl) (ci := 3) rfl rfl rfl rfl hl.1 rfl (Nat.le_of_ble_eq_true rfl) dX3_runner_25 ⟨Nat.le_of_ble_eq_true rfl, Nat.le_of_ble_eq_true rfl⟩ ?_
    refine lv_iconst (v := 1) hx hb dX3_runner_28 (by decide) ?_
    refine lv_isub hx hb dX3_runner_29 ?_
    refine sp_vV (rest := []) (As := [.int (nI i), .int (nI (26 + r)), .int ((G r) - 1)]) (W1 := [(mo, oM MF g0 t0 z0), (t0, aI cI 174 (tab (setT (setT tv i (F, P, L, G)) i (F, P, L, upd G r ((G r) - 1)))))]) ⟨hx, hb, hml, hown, hts⟩ (mX3_set l D cI cT mo g0 t0 z0 MF (setT tv i (F, P, L, G)) i (26 + r) ((G r) - 1) (F, P, L, upd G r ((G r) - 1)) (by omega) (by omega) (fun b _ => by rw [setT_i _ _ _]; exact rs_G (by omega) b)) (cwV 3 hts gX3_runner_X3_set rfl rfl rfl (by decide +kernel) ⟨Nat.le_of_ble_eq_true rfl, Nat.le_of_ble_eq_true rfl⟩) hK hP hD hS [0, 1] rfl (fun k q h => by simp at h) (sp_nsub hN [0, 1] (by decide) rfl) rfl rfl rfl (ci := 3) rfl rfl rfl rfl hl.1 rfl (Nat.le_of_ble_eq_true rfl) dX3_runner_30 ⟨Nat.le_of_ble_eq_true rfl, Nat.le_of_ble_eq_true rfl⟩ (fun H locs hP hD hS => ?_)
    rw [setT_setT] at hP hD
    refine lv_aload_n hx hb dX3_runner_33 rfl (lv_at hl 0 rfl) ?_
    refine lv_iload_n hx hb dX3_runner_34 rfl (lv_at hl 1 rfl) ?_
    refine lv_bipush (v := nI 26) hx hb dX3_runner_35 (by decide) ?_
    refine lv_iload_n hx hb dX3_runner_37 rfl (lv_at hl 2 rfl) ?_
    refine lv_iadd hx hb dX3_runner_38 ?_
    refine sp_top (nI_add 26 r : (nI 26) + (nI r) = nI (26 + r)) ?_
    refine sp_rV (rest := []) (As := [.int (nI i), .int (nI (26 + r))]) ⟨hx, hb, hml, hown, hts⟩ (mX3_get l D cI cT mo g0 t0 z0 MF (setT tv i (F, P, L, upd G r ((G r) - 1))) i (26 + r) ((G r) - 1) (by omega) (by omega) (by rw [setT_i _ _ _, row_G _ _]; exact pk_us)) (cwV 2 hts gX3_runner_X3_get rfl rfl rfl (by decide +kernel) ⟨Nat.le_of_ble_eq_true rfl, Nat.le_of_ble_eq_true rfl⟩) hK (sp_pick hP [0, 1] rfl) (ci := 3) rfl rfl rfl rfl hl.1 rfl (Nat.le_of_ble_eq_true rfl) dX3_runner_39 ⟨Nat.le_of_ble_eq_true rfl, Nat.le_of_ble_eq_true rfl⟩ ?_
    refine lx_if_le (tgt := 46) hx hb dX3_runner_42 (by decide) (fun c42 => ?_) (fun c42 => ?_)
    · skip
      refine lv_aload_n hx hb dX3_runner_46 rfl (lv_at hl 0 rfl) ?_
      refine lv_iload_n hx hb dX3_runner_47 rfl (lv_at hl 1 rfl) ?_
      refine lv_bipush (v := nI 15) hx hb dX3_runner_48 (by decide) ?_
      refine lv_aload_n hx hb dX3_runner_50 rfl (lv_at hl 0 rfl) ?_
      refine lv_iload_n hx hb dX3_runner_51 rfl (lv_at hl 1 rfl) ?_
      refine lv_bipush (v := nI 23) hx hb dX3_runner_52 (by decide) ?_
      refine lv_iload_n hx hb dX3_runner_54 rfl (lv_at hl 2 rfl) ?_
      refine lv_iadd hx hb dX3_runner_55 ?_
      refine sp_top (nI_add 23 r : (nI 23) + (nI r) = nI (23 + r)) ?_
      refine sp_rV (rest := [.int (nI 15), .int (nI i), .ref mo]) (As := [.int (nI i), .int (nI (23 + r))]) ⟨hx, hb, hml, hown, hts⟩ (mX3_get l D cI cT mo g0 t0 z0 MF (setT tv i (F, P, L, upd G r ((G r) - 1))) i (23 + r) (L r) (by omega) (by omega) (by rw [setT_i _ _ _, row_L _ (by omega)])) (cwV 2 hts gX3_runner_X3_get rfl rfl rfl (by decide +kernel) ⟨Nat.le_of_ble_eq_true rfl, Nat.le_of_ble_eq_true rfl⟩) hK (sp_pick hP [0, 1] rfl) (ci := 3) rfl rfl rfl rfl hl.1 rfl (Nat.le_of_ble_eq_true rfl) dX3_runner_56 ⟨Nat.le_of_ble_eq_true rfl, Nat.le_of_ble_eq_true rfl⟩ ?_
      obtain ⟨j, hj8, ej⟩ : ∃ j : Nat, j < 8 ∧ L r = nI j := (hL r hr3).resolve_left c10
      refine sp_top ej ?_
      refine lv_iadd hx hb dX3_runner_59 ?_
      refine sp_top (nI_add 15 j : (nI 15) + (nI j) = nI (15 + j)) ?_
      refine lv_aload_n hx hb dX3_runner_60 rfl (lv_at hl 0 rfl) ?_
      refine lv_iload_n hx hb dX3_runner_61 rfl (lv_at hl 1 rfl) ?_
      refine lv_bipush (v := 9) hx hb dX3_runner_62 (by decide) ?_
      refine sp_rV (rest := [.int (nI (15 + j)), .int (nI i), .ref mo]) (As := [.int (nI i), .int (nI 9)]) ⟨hx, hb, hml, hown, hts⟩ (mX3_get l D cI cT mo g0 t0 z0 MF (setT tv i (F, P, L, upd G r ((G r) - 1))) i 9 (F 9) (by omega) (by omega) (by rw [setT_i _ _ _]; rfl)) (cwV 2 hts gX3_runner_X3_get rfl rfl rfl (by decide +kernel) ⟨Nat.le_of_ble_eq_true rfl, Nat.le_of_ble_eq_true rfl⟩) hK (sp_pick hP [0, 1] rfl) (ci := 3) rfl rfl rfl rfl hl.1 rfl (Nat.le_of_ble_eq_true rfl) dX3_runner_64 ⟨Nat.le_of_ble_eq_true rfl, Nat.le_of_ble_eq_true rfl⟩ ?_
      refine lv_aload_n hx hb dX3_runner_67 rfl (lv_at hl 0 rfl) ?_
      refine lv_iload_n hx hb dX3_runner_68 rfl (lv_at hl 1 rfl) ?_
      refine lv_bipush (v := 8) hx hb dX3_runner_69 (by decide) ?_
      refine sp_rV (rest := [.int (F 9), .int (nI (15 + j)), .int (nI i), .ref mo]) (As := [.int (nI i), .int (nI 8)]) ⟨hx, hb, hml, hown, hts⟩ (mX3_get l D cI cT mo g0 t0 z0 MF (setT tv i (F, P, L, upd G r ((G r) - 1))) i 8 (F 8) (by omega) (by omega) (by rw [setT_i _ _ _]; rfl)) (cwV 2 hts gX3_runner_X3_get rfl rfl rfl (by decide +kernel) ⟨Nat.le_of_ble_eq_true rfl, Nat.le_of_ble_eq_true rfl⟩) hK (sp_pick hP [0, 1] rfl) (ci := 3) rfl rfl rfl rfl hl.1 rfl (Nat.le_of_ble_eq_true rfl) dX3_runner_71 ⟨Nat.le_of_ble_eq_true rfl, Nat.le_of_ble_eq_true rfl⟩ ?_
      refine lv_iadd hx hb dX3_runner_74 ?_
      refine sp_vV (rest := []) (As := [.int (nI i), .int (nI (15 + j)), .int ((F 9) + (F 8))]) (W1 := [(mo, oM MF g0 t0 z0), (t0, aI cI 174 (tab (setT (setT tv i (F, P, L, upd G r ((G r) - 1))) i (F, upd P j ((F 9) + (F 8)), L, upd G r ((G r) - 1)))))]) ⟨hx, hb, hml, hown, hts⟩ (mX3_set l D cI cT mo g0 t0 z0 MF (setT tv i (F, P, L, upd G r ((G r) - 1))) i (15 + j) ((F 9) + (F 8)) (F, upd P j ((F 9) + (F 8)), L, upd G r ((G r) - 1)) (by omega) (by omega) (fun b _ => by rw [setT_i _ _ _]; exact rs_P (by omega) b)) (cwV 3 hts gX3_runner_X3_set rfl rfl rfl (by decide +kernel) ⟨Nat.le_of_ble_eq_true rfl, Nat.le_of_ble_eq_true rfl⟩) hK hP hD hS [0, 1] rfl (fun k q h => by simp at h) (sp_nsub hN [0, 1] (by decide) rfl) rfl rfl rfl (ci := 3) rfl rfl rfl rfl hl.1 rfl (Nat.le_of_ble_eq_true rfl) dX3_runner_75 ⟨Nat.le_of_ble_eq_true rfl, Nat.le_of_ble_eq_true rfl⟩ (fun H locs hP hD hS => ?_)
      rw [setT_setT] at hP hD
      refine lv_aload_n hx hb dX3_runner_78 rfl (lv_at hl 0 rfl) ?_
      refine lv_iload_n hx hb dX3_runner_79 rfl (lv_at hl 1 rfl) ?_
      refine lv_bipush (v := nI 23) hx hb dX3_runner_80 (by decide) ?_
      refine lv_iload_n hx hb dX3_runner_82 rfl (lv_at hl 2 rfl) ?_
      refine lv_iadd hx hb dX3_runner_83 ?_
      refine sp_top (nI_add 23 r : (nI 23) + (nI r) = nI (23 + r)) ?_
      refine lv_iconst (v := (-1)) hx hb dX3_runner_84 (by decide) ?_
      refine sp_vV (rest := []) (As := [.int (nI i), .int (nI (23 + r)), .int (-1)]) (W1 := [(mo, oM MF g0 t0 z0), (t0, aI cI 174 (tab (setT (setT tv i (F, upd P j ((F 9) + (F 8)), L, upd G r ((G r) - 1))) i (F, upd P j ((F 9) + (F 8)), upd L r (-1), upd G r ((G r) - 1)))))]) ⟨hx, hb, hml, hown, hts⟩ (mX3_set l D cI cT mo g0 t0 z0 MF (setT tv i (F, upd P j ((F 9) + (F 8)), L, upd G r ((G r) - 1))) i (23 + r) (-1) (F, upd P j ((F 9) + (F 8)), upd L r (-1), upd G r ((G r) - 1)) (by omega) (by omega) (fun b _ => by rw [setT_i _ _ _]; exact rs_L (by omega) b)) (cwV 3 hts gX3_runner_X3_set rfl rfl rfl (by decide +kernel) ⟨Nat.le_of_ble_eq_true rfl, Nat.le_of_ble_eq_true rfl⟩) hK hP hD hS [0, 1] rfl (fun k q h => by simp at h) (sp_nsub hN [0, 1] (by decide) rfl) rfl rfl rfl (ci := 3) rfl rfl rfl rfl hl.1 rfl (Nat.le_of_ble_eq_true rfl) dX3_runner_85 ⟨Nat.le_of_ble_eq_true rfl, Nat.le_of_ble_eq_true rfl⟩ (fun H locs hP hD hS => ?_)
      rw [setT_setT] at hP hD
      subst hQ
      have hP9 : va_P D vwCl [(mo, oM MF g0 t0 z0), (t0, aI cI 174 (tab (setT tv i (mRun n r (F, P, L, G)))))] H := by rw [show mRun n r (F, P, L, G) = (F, upd P j ((F 9) + (F 8)), upd L r (-1), upd G r ((G r) - 1)) from by unfold mRun; rw [if_neg c10, if_neg c42]; show (F, upd P (L r).toNatClampNeg (F 9 + F 8), upd L r (-1), upd G r (G r - 1)) = _; rw [ej, nI_clamp (by omega)]]; exact hP
      subst hAe
      exact W.vret hx hb hr (fun t ht hW => ⟨⟨(), rfl, trivial, by show va_P D vwCl _ t.heap; rw [ht]; exact hP9⟩, hS.F ht⟩) hS.2.2 dX3_runner_88
    · skip
      subst hQ
      have hP9 : va_P D vwCl [(mo, oM MF g0 t0 z0), (t0, aI cI 174 (tab (setT tv i (mRun n r (F, P, L, G)))))] H := by rw [show mRun n r (F, P, L, G) = (F, P, L, upd G r ((G r) - 1)) from by unfold mRun; rw [if_neg c10, if_pos c42]]; exact hP
      subst hAe
      exact W.vret hx hb hr (fun t ht hW => ⟨⟨(), rfl, trivial, by show va_P D vwCl _ t.heap; rw [ht]; exact hP9⟩, hS.F ht⟩) hS.2.2 dX3_runner_45

abbrev rmX3_begin : Room := { frames := 1, cells := 0, slots := 0, locals := 23 }
set_option maxHeartbeats 4000000 in
set_option maxRecDepth 100000 in
/-- a team begins anew -/
theorem mX3_begin (l : Launch) (D : va_G) (cI cT : ClassId) (mo g0 t0 z0 : Nat) (MF : Nat → Int32) (tv : Nat → TV) (i : Nat) (hi6 : i < 6) (F P L G : Nat → Int32) (hT : tv i = (F, P, L, G)) (n : Nat) (hn : n ≤ 8) (h2 : F 2 = nI n) : MetV l D cI cT yX3_begin wsX3_begin rmX3_begin [.ref mo, .int (nI i)] [(mo, oM MF g0 t0 z0), (t0, aI cI 174 (tab tv))] [] [(mo, oM MF g0 t0 z0), (t0, aI cI 174 (tab (setT tv i (mBegin n (F, P, L, G)))))] := by
  refine Met.ofW (cc := cX3_begin) (maxL := 3) (ret := none) (by decide) rfl ?_
  intro p e s m args below meth c s₁ B hml hv
  obtain ⟨hargs, hP, hR0, hK, hN⟩ := hv
  have hx := B.exec
  have hb := B.bytes
  have hr := B.returns
  have hts := atoms_spec (ws := wsX3_begin) B.pre
  have hown : s.vm.findClass RX3 = some m.cls := findClass_of_methodNamed B.named
  have hlocks := B.notSynchronized
  have hiX3 : ∀ w ∈ u_ws RX3 TX3 9, w ∈ wsX3_begin := by decide +kernel
  have he : entryFrame m args 3 = F0 m 0 ((lg_sl [.ref mo, .int (nI i)] ++ List.replicate (3 - (lg_sl [.ref mo, .int (nI i)]).length) Slot.unset).toArray) [] := by rw [hargs]; exact lg_entry_eq m _ _
  rw [he]
  change W p l e rmX3_begin s m args below meth c s.heap [] 0 0 (MQ below (va_Qv (S := Unit) (fun _ => True) (fun _ t => va_P D vwCl [(mo, oM MF g0 t0 z0), (t0, aI cI 174 (tab (setT tv i (mBegin n (F, P, L, G)))))] t.heap) (fr (List.map Prod.fst [(mo, oM MF g0 t0 z0), (t0, aI cI 174 (tab tv))]))) args s 0 0 (fr (List.map Prod.fst [(mo, oM MF g0 t0 z0), (t0, aI cI 174 (tab tv))]))) _
  obtain ⟨Q, hQ⟩ : ∃ Q, Q = MQ below (va_Qv (S := Unit) (fun _ => True) (fun _ t => va_P D vwCl [(mo, oM MF g0 t0 z0), (t0, aI cI 174 (tab (setT tv i (mBegin n (F, P, L, G)))))] t.heap) (fr (List.map Prod.fst [(mo, oM MF g0 t0 z0), (t0, aI cI 174 (tab tv))]))) args s 0 0 (fr (List.map Prod.fst [(mo, oM MF g0 t0 z0), (t0, aI cI 174 (tab tv))])) := ⟨_, rfl⟩
  rw [← hQ]
  have hl := lv_entry [.ref mo, .int (nI i)] (n := 3) (Nat.le_of_ble_eq_true rfl)
  generalize (lg_sl [.ref mo, .int (nI i)] ++ List.replicate (3 - (lg_sl [.ref mo, .int (nI i)]).length) Slot.unset).toArray = ls at hl ⊢
  have hl : lv_has ls 3 [(0, .ref mo), (1, .int (nI i))] := hl
  obtain ⟨A, hAe⟩ : ∃ A, A = (fr (List.map Prod.fst [(mo, oM MF g0 t0 z0), (t0, aI cI 174 (tab tv))])) := ⟨_, rfl⟩
  have hA0 : ∀ q ∈ List.map Prod.fst [(mo, oM MF g0 t0 z0), (t0, aI cI 174 (tab tv))], A q := by rw [hAe]; exact fun q h => h
  have hD : va_D A [(mo, oM MF g0 t0 z0), (t0, aI cI 174 (tab tv))] := sp_D (List.nodup_append.mp (show (([(mo, oM MF g0 t0 z0), (t0, aI cI 174 (tab tv))] : va_W).map Prod.fst ++ ([] : va_W).map Prod.fst).Nodup by rw [← List.map_append]; exact hN)).1 hA0
  have hN : (List.map Prod.fst ([(mo, oM MF g0 t0 z0), (t0, aI cI 174 (tab tv))] ++ []) : List Nat).Nodup := hN
  have hS : va_S A s.heap s.heap [] := va_S.rf
  obtain ⟨H, hH0⟩ : ∃ H, H = s.heap := ⟨_, rfl⟩
  obtain ⟨locs, hlo⟩ : ∃ L : List Loc, L = [] := ⟨_, rfl⟩
  have hP : va_P D vwCl [(mo, oM MF g0 t0 z0), (t0, aI cI 174 (tab tv))] H := by rw [hH0]; exact hP
  have hS : va_S A s.heap H locs := by rw [hH0, hlo]; exact hS
  rw [show W p l e rmX3_begin s m args below meth c s.heap [] 0 0 Q (F0 m 0 ls []) = W p l e rmX3_begin s m args below meth c H locs 0 0 Q (F0 m 0 ls []) by rw [hH0, hlo]]
  clear hH0 hlo
  have hP : va_P D vwCl [(mo, oM MF g0 t0 z0), (t0, aI cI 174 (tab (setT tv i (F, P, L, G))))] H := by rw [← hT, setT_self]; exact hP
  have hD : va_D A [(mo, oM MF g0 t0 z0), (t0, aI cI 174 (tab (setT tv i (F, P, L, G))))] := by rw [← hT, setT_self]; exact hD
  refine lv_aload_n hx hb dX3_begin_0 rfl (lv_at hl 0 rfl) ?_
  refine lv_iload_n hx hb dX3_begin_1 rfl (lv_at hl 1 rfl) ?_
  refine lv_bipush (v := 9) hx hb dX3_begin_2 (by decide) ?_
  refine lv_iconst (v := 0) hx hb dX3_begin_4 (by decide) ?_
  refine sp_vV (rest := []) (As := [.int (nI i), .int (nI 9), .int 0]) (W1 := [(mo, oM MF g0 t0 z0), (t0, aI cI 174 (tab (setT (setT tv i (F, P, L, G)) i (upd F 9 0, P, L, G))))]) ⟨hx, hb, hml, hown, hts⟩ (mX3_set l D cI cT mo g0 t0 z0 MF (setT tv i (F, P, L, G)) i 9 0 (upd F 9 0, P, L, G) (by omega) (by omega) (fun b _ => by rw [setT_i _ _ _]; exact rs_F (by decide) b)) (cwV 3 hts gX3_begin_X3_set rfl rfl rfl (by decide +kernel) ⟨Nat.le_of_ble_eq_true rfl, Nat.le_of_ble_eq_true rfl⟩) hK hP hD hS [0, 1] rfl (fun k q h => by simp at h) (sp_nsub hN [0, 1] (by decide) rfl) rfl rfl rfl (ci := 3) rfl rfl rfl rfl hl.1 rfl (Nat.le_of_ble_eq_true rfl) dX3_begin_5 ⟨Nat.le_of_ble_eq_true rfl, Nat.le_of_ble_eq_true rfl⟩ (fun H locs hP hD hS => ?_)
  rw [setT_setT] at hP hD
  refine lv_aload_n hx hb dX3_begin_8 rfl (lv_at hl 0 rfl) ?_
  refine lv_iload_n hx hb dX3_begin_9 rfl (lv_at hl 1 rfl) ?_
  refine lv_bipush (v := 10) hx hb dX3_begin_10 (by decide) ?_
  refine lv_sipush (v := 1000) hx hb dX3_begin_12 (by decide) ?_
  refine sp_vV (rest := []) (As := [.int (nI i), .int (nI 10), .int 1000]) (W1 := [(mo, oM MF g0 t0 z0), (t0, aI cI 174 (tab (setT (setT tv i (upd F 9 0, P, L, G)) i (upd (upd F 9 0) 10 1000, P, L, G))))]) ⟨hx, hb, hml, hown, hts⟩ (mX3_set l D cI cT mo g0 t0 z0 MF (setT tv i (upd F 9 0, P, L, G)) i 10 1000 (upd (upd F 9 0) 10 1000, P, L, G) (by omega) (by omega) (fun b _ => by rw [setT_i _ _ _]; exact rs_F (by decide) b)) (cwV 3 hts gX3_begin_X3_set rfl rfl rfl (by decide +kernel) ⟨Nat.le_of_ble_eq_true rfl, Nat.le_of_ble_eq_true rfl⟩) hK hP hD hS [0, 1] rfl (fun k q h => by simp at h) (sp_nsub hN [0, 1] (by decide) rfl) rfl rfl rfl (ci := 3) rfl rfl rfl rfl hl.1 rfl (Nat.le_of_ble_eq_true rfl) dX3_begin_15 ⟨Nat.le_of_ble_eq_true rfl, Nat.le_of_ble_eq_true rfl⟩ (fun H locs hP hD hS => ?_)
  rw [setT_setT] at hP hD
  refine lv_aload_n hx hb dX3_begin_18 rfl (lv_at hl 0 rfl) ?_
  refine lv_iload_n hx hb dX3_begin_19 rfl (lv_at hl 1 rfl) ?_
  refine lv_bipush (v := 11) hx hb dX3_begin_20 (by decide) ?_
  refine lv_aload_n hx hb dX3_begin_22 rfl (lv_at hl 0 rfl) ?_
  refine lv_iload_n hx hb dX3_begin_23 rfl (lv_at hl 1 rfl) ?_
  refine lv_bipush (v := 6) hx hb dX3_begin_24 (by decide) ?_
  refine sp_rV (rest := [.int 11, .int (nI i), .ref mo]) (As := [.int (nI i), .int (nI 6)]) ⟨hx, hb, hml, hown, hts⟩ (mX3_get l D cI cT mo g0 t0 z0 MF (setT tv i (upd (upd F 9 0) 10 1000, P, L, G)) i 6 (F 6) (by omega) (by omega) (by rw [setT_i _ _ _]; rfl)) (cwV 2 hts gX3_begin_X3_get rfl rfl rfl (by decide +kernel) ⟨Nat.le_of_ble_eq_true rfl, Nat.le_of_ble_eq_true rfl⟩) hK (sp_pick hP [0, 1] rfl) (ci := 3) rfl rfl rfl rfl hl.1 rfl (Nat.le_of_ble_eq_true rfl) dX3_begin_26 ⟨Nat.le_of_ble_eq_true rfl, Nat.le_of_ble_eq_true rfl⟩ ?_
  refine sp_vV (rest := []) (As := [.int (nI i), .int (nI 11), .int (F 6)]) (W1 := [(mo, oM MF g0 t0 z0), (t0, aI cI 174 (tab (setT (setT tv i (upd (upd F 9 0) 10 1000, P, L, G)) i (upd (upd (upd F 9 0) 10 1000) 11 (F 6), P, L, G))))]) ⟨hx, hb, hml, hown, hts⟩ (mX3_set l D cI cT mo g0 t0 z0 MF (setT tv i (upd (upd F 9 0) 10 1000, P, L, G)) i 11 (F 6) (upd (upd (upd F 9 0) 10 1000) 11 (F 6), P, L, G) (by omega) (by omega) (fun b _ => by rw [setT_i _ _ _]; exact rs_F (by decide) b)) (cwV 3 hts gX3_begin_X3_set rfl rfl rfl (by decide +kernel) ⟨Nat.le_of_ble_eq_true rfl, Nat.le_of_ble_eq_true rfl⟩) hK hP hD hS [0, 1] rfl (fun k q h => by simp at h) (sp_nsub hN [0, 1] (by decide) rfl) rfl rfl rfl (ci := 3) rfl rfl rfl rfl hl.1 rfl (Nat.le_of_ble_eq_true rfl) dX3_begin_29 ⟨Nat.le_of_ble_eq_true rfl, Nat.le_of_ble_eq_true rfl⟩ (fun H locs hP hD hS => ?_)
  rw [setT_setT] at hP hD
  refine lv_aload_n hx hb dX3_begin_32 rfl (lv_at hl 0 rfl) ?_
  refine lv_iload_n hx hb dX3_begin_33 rfl (lv_at hl 1 rfl) ?_
  refine lv_bipush (v := 12) hx hb dX3_begin_34 (by decide) ?_
  refine lv_iconst (v := 0) hx hb dX3_begin_36 (by decide) ?_
  refine sp_vV (rest := []) (As := [.int (nI i), .int (nI 12), .int 0]) (W1 := [(mo, oM MF g0 t0 z0), (t0, aI cI 174 (tab (setT (setT tv i (upd (upd (upd F 9 0) 10 1000) 11 (F 6), P, L, G)) i (upd (upd (upd (upd F 9 0) 10 1000) 11 (F 6)) 12 0, P, L, G))))]) ⟨hx, hb, hml, hown, hts⟩ (mX3_set l D cI cT mo g0 t0 z0 MF (setT tv i (upd (upd (upd F 9 0) 10 1000) 11 (F 6), P, L, G)) i 12 0 (upd (upd (upd (upd F 9 0) 10 1000) 11 (F 6)) 12 0, P, L, G) (by omega) (by omega) (fun b _ => by rw [setT_i _ _ _]; exact rs_F (by decide) b)) (cwV 3 hts gX3_begin_X3_set rfl rfl rfl (by decide +kernel) ⟨Nat.le_of_ble_eq_true rfl, Nat.le_of_ble_eq_true rfl⟩) hK hP hD hS [0, 1] rfl (fun k q h => by simp at h) (sp_nsub hN [0, 1] (by decide) rfl) rfl rfl rfl (ci := 3) rfl rfl rfl rfl hl.1 rfl (Nat.le_of_ble_eq_true rfl) dX3_begin_37 ⟨Nat.le_of_ble_eq_true rfl, Nat.le_of_ble_eq_true rfl⟩ (fun H locs hP hD hS => ?_)
  rw [setT_setT] at hP hD
  refine lv_aload_n hx hb dX3_begin_40 rfl (lv_at hl 0 rfl) ?_
  refine lv_iload_n hx hb dX3_begin_41 rfl (lv_at hl 1 rfl) ?_
  refine lv_bipush (v := 13) hx hb dX3_begin_42 (by decide) ?_
  refine lv_iconst (v := (-1)) hx hb dX3_begin_44 (by decide) ?_
  refine sp_vV (rest := []) (As := [.int (nI i), .int (nI 13), .int (-1)]) (W1 := [(mo, oM MF g0 t0 z0), (t0, aI cI 174 (tab (setT (setT tv i (upd (upd (upd (upd F 9 0) 10 1000) 11 (F 6)) 12 0, P, L, G)) i (upd (upd (upd (upd (upd F 9 0) 10 1000) 11 (F 6)) 12 0) 13 (-1), P, L, G))))]) ⟨hx, hb, hml, hown, hts⟩ (mX3_set l D cI cT mo g0 t0 z0 MF (setT tv i (upd (upd (upd (upd F 9 0) 10 1000) 11 (F 6)) 12 0, P, L, G)) i 13 (-1) (upd (upd (upd (upd (upd F 9 0) 10 1000) 11 (F 6)) 12 0) 13 (-1), P, L, G) (by omega) (by omega) (fun b _ => by rw [setT_i _ _ _]; exact rs_F (by decide) b)) (cwV 3 hts gX3_begin_X3_set rfl rfl rfl (by decide +kernel) ⟨Nat.le_of_ble_eq_true rfl, Nat.le_of_ble_eq_true rfl⟩) hK hP hD hS [0, 1] rfl (fun k q h => by simp at h) (sp_nsub hN [0, 1] (by decide) rfl) rfl rfl rfl (ci := 3) rfl rfl rfl rfl hl.1 rfl (Nat.le_of_ble_eq_true rfl) dX3_begin_45 ⟨Nat.le_of_ble_eq_true rfl, Nat.le_of_ble_eq_true rfl⟩ (fun H locs hP hD hS => ?_)
  rw [setT_setT] at hP hD
  refine lv_aload_n hx hb dX3_begin_48 rfl (lv_at hl 0 rfl) ?_
  refine lv_iload_n hx hb dX3_begin_49 rfl (lv_at hl 1 rfl) ?_
  refine lv_bipush (v := 14) hx hb dX3_begin_50 (by decide) ?_
  refine lv_iconst (v := 0) hx hb dX3_begin_52 (by decide) ?_
  refine sp_vV (rest := []) (As := [.int (nI i), .int (nI 14), .int 0]) (W1 := [(mo, oM MF g0 t0 z0), (t0, aI cI 174 (tab (setT (setT tv i (upd (upd (upd (upd (upd F 9 0) 10 1000) 11 (F 6)) 12 0) 13 (-1), P, L, G)) i (upd (upd (upd (upd (upd (upd F 9 0) 10 1000) 11 (F 6)) 12 0) 13 (-1)) 14 0, P, L, G))))]) ⟨hx, hb, hml, hown, hts⟩ (mX3_set l D cI cT mo g0 t0 z0 MF (setT tv i (upd (upd (upd (upd (upd F 9 0) 10 1000) 11 (F 6)) 12 0) 13 (-1), P, L, G)) i 14 0 (upd (upd (upd (upd (upd (upd F 9 0) 10 1000) 11 (F 6)) 12 0) 13 (-1)) 14 0, P, L, G) (by omega) (by omega) (fun b _ => by rw [setT_i _ _ _]; exact rs_F (by decide) b)) (cwV 3 hts gX3_begin_X3_set rfl rfl rfl (by decide +kernel) ⟨Nat.le_of_ble_eq_true rfl, Nat.le_of_ble_eq_true rfl⟩) hK hP hD hS [0, 1] rfl (fun k q h => by simp at h) (sp_nsub hN [0, 1] (by decide) rfl) rfl rfl rfl (ci := 3) rfl rfl rfl rfl hl.1 rfl (Nat.le_of_ble_eq_true rfl) dX3_begin_53 ⟨Nat.le_of_ble_eq_true rfl, Nat.le_of_ble_eq_true rfl⟩ (fun H locs hP hD hS => ?_)
  rw [setT_setT] at hP hD
  refine lv_iconst (v := nI 0) hx hb dX3_begin_56 (by decide) ?_
  refine lv_istore_n (lv' := [(2, .int (nI 0)), (0, .ref mo), (1, .int (nI i))]) hx hb dX3_begin_57 rfl hl (by decide) rfl (fun ls hl => ?_)
  have loop58 : ∀ (fu : Nat) (k : Nat), (8 - k) < fu → (k ≤ 8) → ∀ (H : Heap) (locs : List Loc), va_P D vwCl [(mo, oM MF g0 t0 z0), (t0, aI cI 174 (tab (setT tv i (upd (upd (upd (upd (upd (upd F 9 0) 10 1000) 11 (F 6)) 12 0) 13 (-1)) 14 0, mStartP F P n k, L, G))))] H → va_D A [(mo, oM MF g0 t0 z0), (t0, aI cI 174 (tab (setT tv i (upd (upd (upd (upd (upd (upd F 9 0) 10 1000) 11 (F 6)) 12 0) 13 (-1)) 14 0, mStartP F P n k, L, G))))] → va_S A s.heap H locs → ∀ (ls : Array Slot), lv_has ls 3 [(2, .int (nI k)), (0, .ref mo), (1, .int (nI i))] → W p l e rmX3_begin s m args below meth c H locs 0 0 Q (F0 m 58 ls []) := by
    intro fu
    induction fu with
    | zero => intro k hfu; exact absurd hfu (Nat.not_lt_zero _)
    | succ fu ih58 =>
      intro k hfu58 hk
      intro H locs hP hD hS ls hl
      refine lv_iload_n hx hb dX3_begin_58 rfl (lv_at hl 0 rfl) ?_
      refine lv_bipush (v := nI 8) hx hb dX3_begin_59 (by decide) ?_
      refine sp_ge (by omega) (by omega) (tgt := 99) hx hb dX3_begin_61 (by decide) (fun c61 => ?_) (fun c61 => ?_)
      · skip
        refine lv_iconst (v := nI 0) hx hb dX3_begin_99 (by decide) ?_
        refine lv_istore_n (lv' := [(2, .int (nI 0)), (0, .ref mo), (1, .int (nI i))]) hx hb dX3_begin_100 rfl hl (by decide) rfl (fun ls hl => ?_)
        have loop101 : ∀ (fu : Nat) (r : Nat), (3 - r) < fu → (r ≤ 3) → ∀ (H : Heap) (locs : List Loc), va_P D vwCl [(mo, oM MF g0 t0 z0), (t0, aI cI 174 (tab (setT tv i (upd (upd (upd (upd (upd (upd F 9 0) 10 1000) 11 (F 6)) 12 0) 13 (-1)) 14 0, mStartP F P n 8, cFill L (-1) r, cFill G 0 r))))] H → va_D A [(mo, oM MF g0 t0 z0), (t0, aI cI 174 (tab (setT tv i (upd (upd (upd (upd (upd (upd F 9 0) 10 1000) 11 (F 6)) 12 0) 13 (-1)) 14 0, mStartP F P n 8, cFill L (-1) r, cFill G 0 r))))] → va_S A s.heap H locs → ∀ (ls : Array Slot), lv_has ls 3 [(2, .int (nI r)), (0, .ref mo), (1, .int (nI i))] → W p l e rmX3_begin s m args below meth c H locs 0 0 Q (F0 m 101 ls []) := by
          intro fu
          induction fu with
          | zero => intro r hfu; exact absurd hfu (Nat.not_lt_zero _)
          | succ fu ih101 =>
            intro r hfu101 hr9
            intro H locs hP hD hS ls hl
            refine lv_iload_n hx hb dX3_begin_101 rfl (lv_at hl 0 rfl) ?_
            refine lv_iconst (v := nI 3) hx hb dX3_begin_102 (by decide) ?_
            refine sp_ge (by omega) (by omega) (tgt := 132) hx hb dX3_begin_103 (by decide) (fun c103 => ?_) (fun c103 => ?_)
            · skip
              subst hQ
              have hP9 : va_P D vwCl [(mo, oM MF g0 t0 z0), (t0, aI cI 174 (tab (setT tv i (mBegin n (F, P, L, G)))))] H := by have en : r = 3 := (by omega); subst en; exact hP
              subst hAe
              exact W.vret hx hb hr (fun t ht hW => ⟨⟨(), rfl, trivial, by show va_P D vwCl _ t.heap; rw [ht]; exact hP9⟩, hS.F ht⟩) hS.2.2 dX3_begin_132
            · skip
              refine lv_aload_n hx hb dX3_begin_106 rfl (lv_at hl 1 rfl) ?_
              refine lv_iload_n hx hb dX3_begin_107 rfl (lv_at hl 2 rfl) ?_
              refine lv_bipush (v := nI 23) hx hb dX3_begin_108 (by decide) ?_
              refine lv_iload_n hx hb dX3_begin_110 rfl (lv_at hl 0 rfl) ?_
              refine lv_iadd hx hb dX3_begin_111 ?_
              refine sp_top (nI_add 23 r : (nI 23) + (nI r) = nI (23 + r)) ?_
              refine lv_iconst (v := (-1)) hx hb dX3_begin_112 (by decide) ?_
              refine sp_vV (rest := []) (As := [.int (nI i), .int (nI (23 + r)), .int (-1)]) (W1 := [(mo, oM MF g0 t0 z0), (t0, aI cI 174 (tab (setT (setT tv i (upd (upd (upd (upd (upd (upd F 9 0) 10 1000) 11 (F 6)) 12 0) 13 (-1)) 14 0, mStartP F P n 8, cFill L (-1) r, cFill G 0 r)) i (upd (upd (upd (upd (upd (upd F 9 0) 10 1000) 11 (F 6)) 12 0) 13 (-1)) 14 0, mStartP F P n 8, upd (cFill L (-1) r) r (-1), cFill G 0 r))))]) ⟨hx, hb, hml, hown, hts⟩ (mX3_set l D cI cT mo g0 t0 z0 MF (setT tv i (upd (upd (upd (upd (upd (upd F 9 0) 10 1000) 11 (F 6)) 12 0) 13 (-1)) 14 0, mStartP F P n 8, cFill L (-1) r, cFill G 0 r)) i (23 + r) (-1) (upd (upd (upd (upd (upd (upd F 9 0) 10 1000) 11 (F 6)) 12 0) 13 (-1)) 14 0, mStartP F P n 8, upd (cFill L (-1) r) r (-1), cFill G 0 r) (by omega) (by omega) (fun b _ => by rw [setT_i _ _ _]; exact rs_L (by omega) b)) (cwV 3 hts gX3_begin_X3_set rfl rfl rfl (by decide +kernel) ⟨Nat.le_of_ble_eq_true rfl, Nat.le_of_ble_eq_true rfl⟩) hK hP hD hS [0, 1] rfl (fun k q h => by simp at h) (sp_nsub hN [0, 1] (by decide) rfl) rfl rfl rfl (ci := 3) rfl rfl rfl rfl hl.1 rfl (Nat.le_of_ble_eq_true rfl) dX3_begin_113 ⟨Nat.le_of_ble_eq_true rfl, Nat.le_of_ble_eq_true rfl⟩ (fun H locs hP hD hS => ?_)
              rw [setT_setT] at hP hD
              refine lv_aload_n hx hb dX3_begin_116 rfl (lv_at hl 1 rfl) ?_
              refine lv_iload_n hx hb dX3_begin_117 rfl (lv_at hl 2 rfl) ?_
              refine lv_bipush (v := nI 26) hx hb dX3_begin_118 (by decide) ?_
              refine lv_iload_n hx hb dX3_begin_120 rfl (lv_at hl 0 rfl) ?_
              refine lv_iadd hx hb dX3_begin_121 ?_
              refine sp_top (nI_add 26 r : (nI 26) + (nI r) = nI (26 + r)) ?_
              refine lv_iconst (v := 0) hx hb dX3_begin_122 (by decide) ?_
              refine sp_vV (rest := []) (As := [.int (nI i), .int (nI (26 + r)), .int 0]) (W1 := [(mo, oM MF g0 t0 z0), (t0, aI cI 174 (tab (setT (setT tv i (upd (upd (upd (upd (upd (upd F 9 0) 10 1000) 11 (F 6)) 12 0) 13 (-1)) 14 0, mStartP F P n 8, upd (cFill L (-1) r) r (-1), cFill G 0 r)) i (upd (upd (upd (upd (upd (upd F 9 0) 10 1000) 11 (F 6)) 12 0) 13 (-1)) 14 0, mStartP F P n 8, upd (cFill L (-1) r) r (-1), upd (cFill G 0 r) r 0))))]) ⟨hx, hb, hml, hown, hts⟩ (mX3_set l D cI cT mo g0 t0 z0 MF (setT tv i (upd (upd (upd (upd (upd (upd F 9 0) 10 1000) 11 (F 6)) 12 0) 13 (-1)) 14 0, mStartP F P n 8, upd (cFill L (-1) r) r (-1), cFill G 0 r)) i (26 + r) 0 (upd (upd (upd (upd (upd (upd F 9 0) 10 1000) 11 (F 6)) 12 0) 13 (-1)) 14 0, mStartP F P n 8, upd (cFill L (-1) r) r (-1), upd (cFill G 0 r) r 0) (by omega) (by omega) (fun b _ => by rw [setT_i _ _ _]; exact rs_G (by omega) b)) (cwV 3 hts gX3_begin_X3_set rfl rfl rfl (by decide +kernel) ⟨Nat.le_of_ble_eq_true rfl, Nat.le_of_ble_eq_true rfl⟩) hK hP hD hS [0, 1] rfl (fun k q h => by simp at h) (sp_nsub hN [0, 1] (by decide) rfl) rfl rfl rfl (ci := 3) rfl rfl rfl rfl hl.1 rfl (Nat.le_of_ble_eq_true rfl) dX3_begin_123 ⟨Nat.le_of_ble_eq_true rfl, Nat.le_of_ble_eq_true rfl⟩ (fun H locs hP hD hS => ?_)
              rw [setT_setT] at hP hD
              rw [upd_cFill, upd_cFill] at hP hD
              refine lv_iinc (v := nI (r + 1)) (lv' := [(2, .int (nI (r + 1))), (0, .ref mo), (1, .int (nI i))]) hx hb dX3_begin_126 hl (k := 0) rfl ((nI_1 r)) (by decide) rfl (fun ls hl => ?_)
              refine lv_goto (tgt := 101) hx hb dX3_begin_129 (by decide) ?_
              exact ih101 (r + 1) (by omega) (by omega) _ _ hP hD hS ls (lv_sub hl [0, 1, 2] rfl)
        exact loop101 _ 0 (Nat.lt_succ_self _) (Nat.zero_le _) _ _ (by rw [cFill_0, cFill_0]; have en : 8 = k := (by omega); rw [← en] at hP; exact hP) (by rw [cFill_0, cFill_0]; have en : 8 = k := (by omega); rw [← en] at hD; exact hD) hS ls (lv_sub hl [0, 1, 2] rfl)
      · skip
        refine lv_aload_n hx hb dX3_begin_64 rfl (lv_at hl 1 rfl) ?_
        refine lv_iload_n hx hb dX3_begin_65 rfl (lv_at hl 2 rfl) ?_
        refine lv_bipush (v := nI 15) hx hb dX3_begin_66 (by decide) ?_
        refine lv_iload_n hx hb dX3_begin_68 rfl (lv_at hl 0 rfl) ?_
        refine lv_iadd hx hb dX3_begin_69 ?_
        refine sp_top (nI_add 15 k : (nI 15) + (nI k) = nI (15 + k)) ?_
        refine lv_iload_n hx hb dX3_begin_70 rfl (lv_at hl 0 rfl) ?_
        refine lv_iconst (v := 1) hx hb dX3_begin_71 (by decide) ?_
        refine lv_iadd hx hb dX3_begin_72 ?_
        refine sp_top (nI_1 k : (nI k) + 1 = nI (k + 1)) ?_
        refine lv_aload_n hx hb dX3_begin_73 rfl (lv_at hl 1 rfl) ?_
        refine lv_iload_n hx hb dX3_begin_74 rfl (lv_at hl 2 rfl) ?_
        refine lv_iconst (v := 0) hx hb dX3_begin_75 (by decide) ?_
        refine sp_rV (rest := [.int (nI (k + 1)), .int (nI (15 + k)), .int (nI i), .ref mo]) (As := [.int (nI i), .int (nI 0)]) ⟨hx, hb, hml, hown, hts⟩ (mX3_get l D cI cT mo g0 t0 z0 MF (setT tv i (upd (upd (upd (upd (upd (upd F 9 0) 10 1000) 11 (F 6)) 12 0) 13 (-1)) 14 0, mStartP F P n k, L, G)) i 0 (F 0) (by omega) (by omega) (by rw [setT_i _ _ _]; rfl)) (cwV 2 hts gX3_begin_X3_get rfl rfl rfl (by decide +kernel) ⟨Nat.le_of_ble_eq_true rfl, Nat.le_of_ble_eq_true rfl⟩) hK (sp_pick hP [0, 1] rfl) (ci := 3) rfl rfl rfl rfl hl.1 rfl (Nat.le_of_ble_eq_true rfl) dX3_begin_76 ⟨Nat.le_of_ble_eq_true rfl, Nat.le_of_ble_eq_true rfl⟩ ?_
        refine lv_imul hx hb dX3_begin_79 ?_
        refine lv_aload_n hx hb dX3_begin_80 rfl (lv_at hl 1 rfl) ?_
        refine lv_iload_n hx hb dX3_begin_81 rfl (lv_at hl 2 rfl) ?_
        refine lv_iconst (v := 2) hx hb dX3_begin_82 (by decide) ?_
        refine sp_rV (rest := [.int ((nI (k + 1)) * (F 0)), .int (nI (15 + k)), .int (nI i), .ref mo]) (As := [.int (nI i), .int (nI 2)]) ⟨hx, hb, hml, hown, hts⟩ (mX3_get l D cI cT mo g0 t0 z0 MF (setT tv i (upd (upd (upd (upd (upd (upd F 9 0) 10 1000) 11 (F 6)) 12 0) 13 (-1)) 14 0, mStartP F P n k, L, G)) i 2 (nI n) (by omega) (by omega) (by rw [setT_i _ _ _]; exact h2)) (cwV 2 hts gX3_begin_X3_get rfl rfl rfl (by decide +kernel) ⟨Nat.le_of_ble_eq_true rfl, Nat.le_of_ble_eq_true rfl⟩) hK (sp_pick hP [0, 1] rfl) (ci := 3) rfl rfl rfl rfl hl.1 rfl (Nat.le_of_ble_eq_true rfl) dX3_begin_83 ⟨Nat.le_of_ble_eq_true rfl, Nat.le_of_ble_eq_true rfl⟩ ?_
        refine lv_iconst (v := 1) hx hb dX3_begin_86 (by decide) ?_
        refine lv_iadd hx hb dX3_begin_87 ?_
        refine sp_top (nI_1 n : (nI n) + 1 = nI (n + 1)) ?_
        refine lv_idiv hx hb dX3_begin_88 (nI_ne0 (by omega) (by omega)) ?_
        refine lv_ineg hx hb dX3_begin_89 ?_
        refine sp_vV (rest := []) (As := [.int (nI i), .int (nI (15 + k)), .int (-(((nI (k + 1)) * (F 0)) / (nI (n + 1))))]) (W1 := [(mo, oM MF g0 t0 z0), (t0, aI cI 174 (tab (setT (setT tv i (upd (upd (upd (upd (upd (upd F 9 0) 10 1000) 11 (F 6)) 12 0) 13 (-1)) 14 0, mStartP F P n k, L, G)) i (upd (upd (upd (upd (upd (upd F 9 0) 10 1000) 11 (F 6)) 12 0) 13 (-1)) 14 0, upd (mStartP F P n k) k (-(((nI (k + 1)) * (F 0)) / (nI (n + 1)))), L, G))))]) ⟨hx, hb, hml, hown, hts⟩ (mX3_set l D cI cT mo g0 t0 z0 MF (setT tv i (upd (upd (upd (upd (upd (upd F 9 0) 10 1000) 11 (F 6)) 12 0) 13 (-1)) 14 0, mStartP F P n k, L, G)) i (15 + k) (-(((nI (k + 1)) * (F 0)) / (nI (n + 1)))) (upd (upd (upd (upd (upd (upd F 9 0) 10 1000) 11 (F 6)) 12 0) 13 (-1)) 14 0, upd (mStartP F P n k) k (-(((nI (k + 1)) * (F 0)) / (nI (n + 1)))), L, G) (by omega) (by omega) (fun b _ => by rw [setT_i _ _ _]; exact rs_P (by omega) b)) (cwV 3 hts gX3_begin_X3_set rfl rfl rfl (by decide +kernel) ⟨Nat.le_of_ble_eq_true rfl, Nat.le_of_ble_eq_true rfl⟩) hK hP hD hS [0, 1] rfl (fun k q h => by simp at h) (sp_nsub hN [0, 1] (by decide) rfl) rfl rfl rfl (ci := 3) rfl rfl rfl rfl hl.1 rfl (Nat.le_of_ble_eq_true rfl) dX3_begin_90 ⟨Nat.le_of_ble_eq_true rfl, Nat.le_of_ble_eq_true rfl⟩ (fun H locs hP hD hS => ?_)
        rw [setT_setT] at hP hD
        rw [upd_mStartP] at hP hD
        refine lv_iinc (v := nI (k + 1)) (lv' := [(2, .int (nI (k + 1))), (0, .ref mo), (1, .int (nI i))]) hx hb dX3_begin_93 hl (k := 0) rfl ((nI_1 k)) (by decide) rfl (fun ls hl => ?_)
        refine lv_goto (tgt := 58) hx hb dX3_begin_96 (by decide) ?_
        exact ih58 (k + 1) (by omega) (by omega) _ _ hP hD hS ls (lv_sub hl [0, 1, 2] rfl)
  exact loop58 _ 0 (Nat.lt_succ_self _) (Nat.zero_le _) _ _ (by rw [mStartP_0]; exact hP) (by rw [mStartP_0]; exact hD) hS ls (lv_sub hl [0, 1, 2] rfl)

abbrev rmX3_tickOf : Room := { frames := 7, cells := 0, slots := 0, locals := 162 }
set_option maxHeartbeats 4000000 in
set_option maxRecDepth 100000 in
/-- a tick of a team -/
theorem mX3_tickOf (l : Launch) (D : va_G) (cI cT : ClassId) (mo g0 t0 z0 : Nat) (MF : Nat → Int32) (g : Nat → Int32) (tv : Nat → TV) (i : Nat) (hi6 : i < 6) (F P L G : Nat → Int32) (hT : tv i = (F, P, L, G)) (n : Nat) (hn : n ≤ 8) (h2 : F 2 = nI n) (ns : Nat) (hns0 : 0 < ns) (hns : ns ≤ 12) (h5 : MF 5 = nI ns) (nh : Nat) (hnh : nh ≤ 3) (hh : F 5 = nI nh) (hw : ¬ F 1 = 0) (hL : mHold L) : MetV l D cI cT yX3_tickOf wsX3_tickOf rmX3_tickOf [.ref mo, .int (nI i)] [(mo, oM MF g0 t0 z0), (g0, aI cI 39 g), (t0, aI cI 174 (tab tv))] [] [(mo, oM (upd MF 4 (mBk (F, P, L, G) (MF 4))) g0 t0 z0), (g0, aI cI 39 g), (t0, aI cI 174 (tab (setT tv i (mTick n nh g ns (MF 3) (MF 1) (F, P, L, G)))))] := by
  refine Met.ofW (cc := cX3_tickOf) (maxL := 3) (ret := none) (by decide) rfl ?_
  intro p e s m args below meth c s₁ B hml hv
  obtain ⟨hargs, hP, hR0, hK, hN⟩ := hv
  have hx := B.exec
  have hb := B.bytes
  have hr := B.returns
  have hts := atoms_spec (ws := wsX3_tickOf) B.pre
  have hown : s.vm.findClass RX3 = some m.cls := findClass_of_methodNamed B.named
  have hlocks := B.notSynchronized
  have hiX3 : ∀ w ∈ u_ws RX3 TX3 9, w ∈ wsX3_tickOf := by decide +kernel
  have he : entryFrame m args 3 = F0 m 0 ((lg_sl [.ref mo, .int (nI i)] ++ List.replicate (3 - (lg_sl [.ref mo, .int (nI i)]).length) Slot.unset).toArray) [] := by rw [hargs]; exact lg_entry_eq m _ _
  rw [he]
  change W p l e rmX3_tickOf s m args below meth c s.heap [] 0 0 (MQ below (va_Qv (S := Unit) (fun _ => True) (fun _ t => va_P D vwCl [(mo, oM (upd MF 4 (mBk (F, P, L, G) (MF 4))) g0 t0 z0), (g0, aI cI 39 g), (t0, aI cI 174 (tab (setT tv i (mTick n nh g ns (MF 3) (MF 1) (F, P, L, G)))))] t.heap) (fr (List.map Prod.fst [(mo, oM MF g0 t0 z0), (g0, aI cI 39 g), (t0, aI cI 174 (tab tv))]))) args s 0 0 (fr (List.map Prod.fst [(mo, oM MF g0 t0 z0), (g0, aI cI 39 g), (t0, aI cI 174 (tab tv))]))) _
  obtain ⟨Q, hQ⟩ : ∃ Q, Q = MQ below (va_Qv (S := Unit) (fun _ => True) (fun _ t => va_P D vwCl [(mo, oM (upd MF 4 (mBk (F, P, L, G) (MF 4))) g0 t0 z0), (g0, aI cI 39 g), (t0, aI cI 174 (tab (setT tv i (mTick n nh g ns (MF 3) (MF 1) (F, P, L, G)))))] t.heap) (fr (List.map Prod.fst [(mo, oM MF g0 t0 z0), (g0, aI cI 39 g), (t0, aI cI 174 (tab tv))]))) args s 0 0 (fr (List.map Prod.fst [(mo, oM MF g0 t0 z0), (g0, aI cI 39 g), (t0, aI cI 174 (tab tv))])) := ⟨_, rfl⟩
  rw [← hQ]
  have hl := lv_entry [.ref mo, .int (nI i)] (n := 3) (Nat.le_of_ble_eq_true rfl)
  generalize (lg_sl [.ref mo, .int (nI i)] ++ List.replicate (3 - (lg_sl [.ref mo, .int (nI i)]).length) Slot.unset).toArray = ls at hl ⊢
  have hl : lv_has ls 3 [(0, .ref mo), (1, .int (nI i))] := hl
  obtain ⟨A, hAe⟩ : ∃ A, A = (fr (List.map Prod.fst [(mo, oM MF g0 t0 z0), (g0, aI cI 39 g), (t0, aI cI 174 (tab tv))])) := ⟨_, rfl⟩
  have hA0 : ∀ q ∈ List.map Prod.fst [(mo, oM MF g0 t0 z0), (g0, aI cI 39 g), (t0, aI cI 174 (tab tv))], A q := by rw [hAe]; exact fun q h => h
  have hD : va_D A [(mo, oM MF g0 t0 z0), (g0, aI cI 39 g), (t0, aI cI 174 (tab tv))] := sp_D (List.nodup_append.mp (show (([(mo, oM MF g0 t0 z0), (g0, aI cI 39 g), (t0, aI cI 174 (tab tv))] : va_W).map Prod.fst ++ ([] : va_W).map Prod.fst).Nodup by rw [← List.map_append]; exact hN)).1 hA0
  have hN : (List.map Prod.fst ([(mo, oM MF g0 t0 z0), (g0, aI cI 39 g), (t0, aI cI 174 (tab tv))] ++ []) : List Nat).Nodup := hN
  have hS : va_S A s.heap s.heap [] := va_S.rf
  obtain ⟨H, hH0⟩ : ∃ H, H = s.heap := ⟨_, rfl⟩
  obtain ⟨locs, hlo⟩ : ∃ L : List Loc, L = [] := ⟨_, rfl⟩
  have hP : va_P D vwCl [(mo, oM MF g0 t0 z0), (g0, aI cI 39 g), (t0, aI cI 174 (tab tv))] H := by rw [hH0]; exact hP
  have hS : va_S A s.heap H locs := by rw [hH0, hlo]; exact hS
  rw [show W p l e rmX3_tickOf s m args below meth c s.heap [] 0 0 Q (F0 m 0 ls []) = W p l e rmX3_tickOf s m args below meth c H locs 0 0 Q (F0 m 0 ls []) by rw [hH0, hlo]]
  clear hH0 hlo
  have hP : va_P D vwCl [(mo, oM MF g0 t0 z0), (g0, aI cI 39 g), (t0, aI cI 174 (tab (setT tv i (F, P, L, G))))] H := by rw [← hT, setT_self]; exact hP
  have hD : va_D A [(mo, oM MF g0 t0 z0), (g0, aI cI 39 g), (t0, aI cI 174 (tab (setT tv i (F, P, L, G))))] := by rw [← hT, setT_self]; exact hD
  have join86 : ∀ (E : Nat → Int32) (B : Int32), (E = mSnap F) → (B = mBk (F, P, L, G) (MF 4)) → (E 2 = nI n) → (E 5 = nI nh) → (¬ E 1 = 0) → (F 13 = -1) → ∀ (H : Heap) (locs : List Loc), va_P D vwCl [(mo, oM (upd MF 4 B) g0 t0 z0), (g0, aI cI 39 g), (t0, aI cI 174 (tab (setT tv i (E, P, L, G))))] H → va_D A [(mo, oM (upd MF 4 B) g0 t0 z0), (g0, aI cI 39 g), (t0, aI cI 174 (tab (setT tv i (E, P, L, G))))] → va_S A s.heap H locs → ∀ (ls : Array Slot), lv_has ls 3 [(0, .ref mo), (1, .int (nI i))] → W p l e rmX3_tickOf s m args below meth c H locs 0 0 Q (F0 m 86 ls []) := by
    intro E B eE eB E2 E5 hwE cj H locs hP hD hS ls hl
    refine lv_aload_n hx hb dX3_tickOf_86 rfl (lv_at hl 0 rfl) ?_
    refine lv_iload_n hx hb dX3_tickOf_87 rfl (lv_at hl 1 rfl) ?_
    refine lv_bipush (v := 12) hx hb dX3_tickOf_88 (by decide) ?_
    refine sp_rV (rest := []) (As := [.int (nI i), .int (nI 12)]) ⟨hx, hb, hml, hown, hts⟩ (mX3_get l D cI cT mo g0 t0 z0 (upd MF 4 B) (setT tv i (E, P, L, G)) i 12 (E 12) (by omega) (by omega) (by rw [setT_i _ _ _]; rfl)) (cwV 2 hts gX3_tickOf_X3_get rfl rfl rfl (by decide +kernel) ⟨Nat.le_of_ble_eq_true rfl, Nat.le_of_ble_eq_true rfl⟩) hK (sp_pick hP [0, 2] rfl) (ci := 3) rfl rfl rfl rfl hl.1 rfl (Nat.le_of_ble_eq_true rfl) dX3_tickOf_90 ⟨Nat.le_of_ble_eq_true rfl, Nat.le_of_ble_eq_true rfl⟩ ?_
    refine lx_if_le (tgt := 127) hx hb dX3_tickOf_93 (by decide) (fun c93 => ?_) (fun c93 => ?_)
    · skip
      refine lv_aload_n hx hb dX3_tickOf_127 rfl (lv_at hl 0 rfl) ?_
      refine lv_iload_n hx hb dX3_tickOf_128 rfl (lv_at hl 1 rfl) ?_
      refine sp_vV (rest := []) (As := [.int (nI i)]) (W1 := [(mo, oM (upd MF 4 B) g0 t0 z0), (g0, aI cI 39 g), (t0, aI cI 174 (tab (setT (setT tv i (E, P, L, G)) i (mRoll n g ns (E, P, L, G)))))]) ⟨hx, hb, hml, hown, hts⟩ (mX3_roll l D cI cT mo g0 t0 z0 (upd MF 4 B) g (setT tv i (E, P, L, G)) i (by omega) E P L G (setT_i _ _ _) n hn E2 ns hns0 hns h5 hwE) (cwV 1 hts gX3_tickOf_X3_roll rfl rfl rfl (by decide +kernel) ⟨Nat.le_of_ble_eq_true rfl, Nat.le_of_ble_eq_true rfl⟩) hK hP hD hS [0, 1, 2] rfl (fun k q h => by simp at h) (sp_nsub hN [0, 1, 2] (by decide) rfl) rfl rfl rfl (ci := 3) rfl rfl rfl rfl hl.1 rfl (Nat.le_of_ble_eq_true rfl) dX3_tickOf_129 ⟨Nat.le_of_ble_eq_true rfl, Nat.le_of_ble_eq_true rfl⟩ (fun H locs hP hD hS => ?_)
      rw [setT_setT] at hP hD
      refine lv_iconst (v := nI 0) hx hb dX3_tickOf_132 (by decide) ?_
      refine lv_istore_n (lv' := [(2, .int (nI 0)), (0, .ref mo), (1, .int (nI i))]) hx hb dX3_tickOf_133 rfl hl (by decide) rfl (fun ls hl => ?_)
      have loop134 : ∀ (fu : Nat) (r : Nat) (X : TV), (nh - r) < fu → (r ≤ nh) → (mSend n (mRoll n g ns (E, P, L, G)) r = X) → (X.1 2 = nI n) → (X.1 5 = nI nh) → (mHold X.2.2.1) → ∀ (H : Heap) (locs : List Loc), va_P D vwCl [(mo, oM (upd MF 4 B) g0 t0 z0), (g0, aI cI 39 g), (t0, aI cI 174 (tab (setT tv i (X.1, X.2.1, X.2.2.1, X.2.2.2))))] H → va_D A [(mo, oM (upd MF 4 B) g0 t0 z0), (g0, aI cI 39 g), (t0, aI cI 174 (tab (setT tv i (X.1, X.2.1, X.2.2.1, X.2.2.2))))] → va_S A s.heap H locs → ∀ (ls : Array Slot), lv_has ls 3 [(2, .int (nI r)), (0, .ref mo), (1, .int (nI i))] → W p l e rmX3_tickOf s m args below meth c H locs 0 0 Q (F0 m 134 ls []) := by
        intro fu
        induction fu with
        | zero => intro r X hfu; exact absurd hfu (Nat.not_lt_zero _)
        | succ fu ih134 =>
          intro r X hfu134 hr9 eX hX2 hX5 hXL
          intro H locs hP hD hS ls hl
          refine lv_iload_n hx hb dX3_tickOf_134 rfl (lv_at hl 0 rfl) ?_
          refine lv_aload_n hx hb dX3_tickOf_135 rfl (lv_at hl 1 rfl) ?_
          refine lv_iload_n hx hb dX3_tickOf_136 rfl (lv_at hl 2 rfl) ?_
          refine lv_iconst (v := 5) hx hb dX3_tickOf_137 (by decide) ?_
          refine sp_rV (rest := [.int (nI r)]) (As := [.int (nI i), .int (nI 5)]) ⟨hx, hb, hml, hown, hts⟩ (mX3_get l D cI cT mo g0 t0 z0 (upd MF 4 B) (setT tv i (X.1, X.2.1, X.2.2.1, X.2.2.2)) i 5 (nI nh) (by omega) (by omega) (by rw [setT_i _ _ _]; exact hX5)) (cwV 2 hts gX3_tickOf_X3_get rfl rfl rfl (by decide +kernel) ⟨Nat.le_of_ble_eq_true rfl, Nat.le_of_ble_eq_true rfl⟩) hK (sp_pick hP [0, 2] rfl) (ci := 3) rfl rfl rfl rfl hl.1 rfl (Nat.le_of_ble_eq_true rfl) dX3_tickOf_138 ⟨Nat.le_of_ble_eq_true rfl, Nat.le_of_ble_eq_true rfl⟩ ?_
          refine sp_ge (by omega) (by omega) (tgt := 156) hx hb dX3_tickOf_141 (by decide) (fun c141 => ?_) (fun c141 => ?_)
          · skip
            refine lv_aload_n hx hb dX3_tickOf_156 rfl (lv_at hl 1 rfl) ?_
            refine lv_iload_n hx hb dX3_tickOf_157 rfl (lv_at hl 2 rfl) ?_
            refine lv_aload_n hx hb dX3_tickOf_158 rfl (lv_at hl 1 rfl) ?_
            refine lv_iload_n hx hb dX3_tickOf_159 rfl (lv_at hl 2 rfl) ?_
            refine lv_bipush (v := 7) hx hb dX3_tickOf_160 (by decide) ?_
            refine sp_rV (rest := [.int (nI i), .ref mo]) (As := [.int (nI i), .int (nI 7)]) ⟨hx, hb, hml, hown, hts⟩ (mX3_get l D cI cT mo g0 t0 z0 (upd MF 4 B) (setT tv i (X.1, X.2.1, X.2.2.1, X.2.2.2)) i 7 (X.1 7) (by omega) (by omega) (by rw [setT_i _ _ _]; rfl)) (cwV 2 hts gX3_tickOf_X3_get rfl rfl rfl (by decide +kernel) ⟨Nat.le_of_ble_eq_true rfl, Nat.le_of_ble_eq_true rfl⟩) hK (sp_pick hP [0, 2] rfl) (ci := 3) rfl rfl rfl rfl hl.1 rfl (Nat.le_of_ble_eq_true rfl) dX3_tickOf_162 ⟨Nat.le_of_ble_eq_true rfl, Nat.le_of_ble_eq_true rfl⟩ ?_
            refine sp_vV (rest := []) (As := [.int (nI i), .int (X.1 7)]) (W1 := [(mo, oM (upd MF 4 B) g0 t0 z0), (g0, aI cI 39 g), (t0, aI cI 174 (tab (setT (setT tv i (X.1, X.2.1, X.2.2.1, X.2.2.2)) i (mBreathe (X.1 7) (X.1, X.2.1, X.2.2.1, X.2.2.2)))))]) ⟨hx, hb, hml, hown, hts⟩ (mX3_breathe l D cI cT mo g0 t0 z0 (upd MF 4 B)  (setT tv i (X.1, X.2.1, X.2.2.1, X.2.2.2)) i (by omega) X.1 X.2.1 X.2.2.1 X.2.2.2 (setT_i _ _ _) (X.1 7)) (cwV 2 hts gX3_tickOf_X3_breathe rfl rfl rfl (by decide +kernel) ⟨Nat.le_of_ble_eq_true rfl, Nat.le_of_ble_eq_true rfl⟩) hK hP hD hS [0, 2] rfl (fun k q h => by simp at h) (sp_nsub hN [0, 2] (by decide) rfl) rfl rfl rfl (ci := 3) rfl rfl rfl rfl hl.1 rfl (Nat.le_of_ble_eq_true rfl) dX3_tickOf_165 ⟨Nat.le_of_ble_eq_true rfl, Nat.le_of_ble_eq_true rfl⟩ (fun H locs hP hD hS => ?_)
            rw [setT_setT] at hP hD
            refine lv_aload_n hx hb dX3_tickOf_168 rfl (lv_at hl 1 rfl) ?_
            refine lv_iload_n hx hb dX3_tickOf_169 rfl (lv_at hl 2 rfl) ?_
            refine lv_bipush (v := 9) hx hb dX3_tickOf_170 (by decide) ?_
            refine sp_rV (rest := []) (As := [.int (nI i), .int (nI 9)]) ⟨hx, hb, hml, hown, hts⟩ (mX3_get l D cI cT mo g0 t0 z0 (upd MF 4 B) (setT tv i (upd X.1 10 (mBr (X.1 10) (X.1 7)), X.2.1, X.2.2.1, X.2.2.2)) i 9 (X.1 9) (by omega) (by omega) (by rw [setT_i _ _ _]; rfl)) (cwV 2 hts gX3_tickOf_X3_get rfl rfl rfl (by decide +kernel) ⟨Nat.le_of_ble_eq_true rfl, Nat.le_of_ble_eq_true rfl⟩) hK (sp_pick hP [0, 2] rfl) (ci := 3) rfl rfl rfl rfl hl.1 rfl (Nat.le_of_ble_eq_true rfl) dX3_tickOf_172 ⟨Nat.le_of_ble_eq_true rfl, Nat.le_of_ble_eq_true rfl⟩ ?_
            refine lv_aload_n hx hb dX3_tickOf_175 rfl (lv_at hl 1 rfl) ?_
            refine va_get (D := D) (ci := 3) (v := .int (MF 3)) (C := RX3) (T := TX3) (N := 9) hx hb hts hiX3 hown hK.1 hP 0 rfl rfl 3 (by decide) (hts (.fieldLink RX3 9 "SledgeRaceModel" "length" "I") (by decide +kernel)) (fun _ h9 => h9) rfl dX3_tickOf_176 ?_
            refine lv_icmp_lt (tgt := 193) hx hb dX3_tickOf_179 (by decide) (fun c179 => ?_) (fun c179 => ?_)
            · skip
              subst hQ
              have hP9 : va_P D vwCl [(mo, oM (upd MF 4 (mBk (F, P, L, G) (MF 4))) g0 t0 z0), (g0, aI cI 39 g), (t0, aI cI 174 (tab (setT tv i (mTick n nh g ns (MF 3) (MF 1) (F, P, L, G)))))] H := by rw [← eB, show mTick n nh g ns (MF 3) (MF 1) (F, P, L, G) = (upd X.1 10 (mBr (X.1 10) (X.1 7)), X.2.1, X.2.2.1, X.2.2.2) from by unfold mTick; rw [if_neg (not_not_intro cj), ← eE, if_neg c93]; unfold mGo; rw [show nh = r from by omega, eX]; exact if_pos c179]; exact hP
              subst hAe
              exact W.vret hx hb hr (fun t ht hW => ⟨⟨(), rfl, trivial, by show va_P D vwCl _ t.heap; rw [ht]; exact hP9⟩, hS.F ht⟩) hS.2.2 dX3_tickOf_193
            · skip
              refine lv_aload_n hx hb dX3_tickOf_182 rfl (lv_at hl 1 rfl) ?_
              refine lv_iload_n hx hb dX3_tickOf_183 rfl (lv_at hl 2 rfl) ?_
              refine lv_bipush (v := 13) hx hb dX3_tickOf_184 (by decide) ?_
              refine lv_aload_n hx hb dX3_tickOf_186 rfl (lv_at hl 1 rfl) ?_
              refine va_get (D := D) (ci := 3) (v := .int (MF 1)) (C := RX3) (T := TX3) (N := 9) hx hb hts hiX3 hown hK.1 hP 0 rfl rfl 1 (by decide) (hts (.fieldLink RX3 40 "SledgeRaceModel" "tick" "I") (by decide +kernel)) (fun _ h9 => h9) rfl dX3_tickOf_187 ?_
              refine sp_vV (rest := []) (As := [.int (nI i), .int (nI 13), .int (MF 1)]) (W1 := [(mo, oM (upd MF 4 B) g0 t0 z0), (g0, aI cI 39 g), (t0, aI cI 174 (tab (setT (setT tv i (upd X.1 10 (mBr (X.1 10) (X.1 7)), X.2.1, X.2.2.1, X.2.2.2)) i (upd (upd X.1 10 (mBr (X.1 10) (X.1 7))) 13 (MF 1), X.2.1, X.2.2.1, X.2.2.2))))]) ⟨hx, hb, hml, hown, hts⟩ (mX3_set l D cI cT mo g0 t0 z0 (upd MF 4 B) (setT tv i (upd X.1 10 (mBr (X.1 10) (X.1 7)), X.2.1, X.2.2.1, X.2.2.2)) i 13 (MF 1) (upd (upd X.1 10 (mBr (X.1 10) (X.1 7))) 13 (MF 1), X.2.1, X.2.2.1, X.2.2.2) (by omega) (by omega) (fun b _ => by rw [setT_i _ _ _]; exact rs_F (by decide) b)) (cwV 3 hts gX3_tickOf_X3_set rfl rfl rfl (by decide +kernel) ⟨Nat.le_of_ble_eq_true rfl, Nat.le_of_ble_eq_true rfl⟩) hK hP hD hS [0, 2] rfl (fun k q h => by simp at h) (sp_nsub hN [0, 2] (by decide) rfl) rfl rfl rfl (ci := 3) rfl rfl rfl rfl hl.1 rfl (Nat.le_of_ble_eq_true rfl) dX3_tickOf_190 ⟨Nat.le_of_ble_eq_true rfl, Nat.le_of_ble_eq_true rfl⟩ (fun H locs hP hD hS => ?_)
              rw [setT_setT] at hP hD
              subst hQ
              have hP9 : va_P D vwCl [(mo, oM (upd MF 4 (mBk (F, P, L, G) (MF 4))) g0 t0 z0), (g0, aI cI 39 g), (t0, aI cI 174 (tab (setT tv i (mTick n nh g ns (MF 3) (MF 1) (F, P, L, G)))))] H := by rw [← eB, show mTick n nh g ns (MF 3) (MF 1) (F, P, L, G) = (upd (upd X.1 10 (mBr (X.1 10) (X.1 7))) 13 (MF 1), X.2.1, X.2.2.1, X.2.2.2) from by unfold mTick; rw [if_neg (not_not_intro cj), ← eE, if_neg c93]; unfold mGo; rw [show nh = r from by omega, eX]; exact if_neg c179]; exact hP
              subst hAe
              exact W.vret hx hb hr (fun t ht hW => ⟨⟨(), rfl, trivial, by show va_P D vwCl _ t.heap; rw [ht]; exact hP9⟩, hS.F ht⟩) hS.2.2 dX3_tickOf_193
          · skip
            refine lv_aload_n hx hb dX3_tickOf_144 rfl (lv_at hl 1 rfl) ?_
            refine lv_iload_n hx hb dX3_tickOf_145 rfl (lv_at hl 2 rfl) ?_
            refine lv_iload_n hx hb dX3_tickOf_146 rfl (lv_at hl 0 rfl) ?_
            refine sp_vV (rest := []) (As := [.int (nI i), .int (nI r)]) (W1 := [(mo, oM (upd MF 4 B) g0 t0 z0), (g0, aI cI 39 g), (t0, aI cI 174 (tab (setT (setT tv i (X.1, X.2.1, X.2.2.1, X.2.2.2)) i (mRun n r (X.1, X.2.1, X.2.2.1, X.2.2.2)))))]) ⟨hx, hb, hml, hown, hts⟩ (mX3_runner l D cI cT mo g0 t0 z0 (upd MF 4 B)  (setT tv i (X.1, X.2.1, X.2.2.1, X.2.2.2)) i (by omega) X.1 X.2.1 X.2.2.1 X.2.2.2 (setT_i _ _ _) n hn hX2 r (by omega) hXL) (cwV 2 hts gX3_tickOf_X3_runner rfl rfl rfl (by decide +kernel) ⟨Nat.le_of_ble_eq_true rfl, Nat.le_of_ble_eq_true rfl⟩) hK hP hD hS [0, 2] rfl (fun k q h => by simp at h) (sp_nsub hN [0, 2] (by decide) rfl) rfl rfl rfl (ci := 3) rfl rfl rfl rfl hl.1 rfl (Nat.le_of_ble_eq_true rfl) dX3_tickOf_147 ⟨Nat.le_of_ble_eq_true rfl, Nat.le_of_ble_eq_true rfl⟩ (fun H locs hP hD hS => ?_)
            rw [setT_setT] at hP hD
            refine lv_iinc (v := nI (r + 1)) (lv' := [(2, .int (nI (r + 1))), (0, .ref mo), (1, .int (nI i))]) hx hb dX3_tickOf_150 hl (k := 0) rfl ((nI_1 r)) (by decide) rfl (fun ls hl => ?_)
            refine lv_goto (tgt := 134) hx hb dX3_tickOf_153 (by decide) ?_
            exact ih134 (r + 1) (mRun n r X) (by omega) (by omega) (by show mRun n r (mSend n (mRoll n g ns (E, P, L, G)) r) = _; rw [eX]) (by rw [mRun_F]; exact hX2) (by rw [mRun_F]; exact hX5) (mRun_hold hn hXL) _ _ hP hD hS ls (lv_sub hl [0, 1, 2] rfl)
      exact loop134 _ 0 (mRoll n g ns (E, P, L, G)) (Nat.lt_succ_self _) (Nat.zero_le _) (rfl) (E2) (E5) (hL) _ _ hP hD hS ls (lv_sub hl [0, 1, 2] rfl)
    · skip
      refine lv_aload_n hx hb dX3_tickOf_96 rfl (lv_at hl 0 rfl) ?_
      refine lv_iload_n hx hb dX3_tickOf_97 rfl (lv_at hl 1 rfl) ?_
      refine lv_bipush (v := 12) hx hb dX3_tickOf_98 (by decide) ?_
      refine lv_aload_n hx hb dX3_tickOf_100 rfl (lv_at hl 0 rfl) ?_
      refine lv_iload_n hx hb dX3_tickOf_101 rfl (lv_at hl 1 rfl) ?_
      refine lv_bipush (v := 12) hx hb dX3_tickOf_102 (by decide) ?_
      refine sp_rV (rest := [.int 12, .int (nI i), .ref mo]) (As := [.int (nI i), .int (nI 12)]) ⟨hx, hb, hml, hown, hts⟩ (mX3_get l D cI cT mo g0 t0 z0 (upd MF 4 B) (setT tv i (E, P, L, G)) i 12 (E 12) (by omega) (by omega) (by rw [setT_i _ _ _]; rfl)) (cwV 2 hts gX3_tickOf_X3_get rfl rfl rfl (by decide +kernel) ⟨Nat.le_of_ble_eq_true rfl, Nat.le_of_ble_eq_true rfl⟩) hK (sp_pick hP [0, 2] rfl) (ci := 3) rfl rfl rfl rfl hl.1 rfl (Nat.le_of_ble_eq_true rfl) dX3_tickOf_104 ⟨Nat.le_of_ble_eq_true rfl, Nat.le_of_ble_eq_true rfl⟩ ?_
      refine lv_iconst (v := 1) hx hb dX3_tickOf_107 (by decide) ?_
      refine lv_isub hx hb dX3_tickOf_108 ?_
      refine sp_vV (rest := []) (As := [.int (nI i), .int (nI 12), .int ((E 12) - 1)]) (W1 := [(mo, oM (upd MF 4 B) g0 t0 z0), (g0, aI cI 39 g), (t0, aI cI 174 (tab (setT (setT tv i (E, P, L, G)) i (upd E 12 ((E 12) - 1), P, L, G))))]) ⟨hx, hb, hml, hown, hts⟩ (mX3_set l D cI cT mo g0 t0 z0 (upd MF 4 B) (setT tv i (E, P, L, G)) i 12 ((E 12) - 1) (upd E 12 ((E 12) - 1), P, L, G) (by omega) (by omega) (fun b _ => by rw [setT_i _ _ _]; exact rs_F (by decide) b)) (cwV 3 hts gX3_tickOf_X3_set rfl rfl rfl (by decide +kernel) ⟨Nat.le_of_ble_eq_true rfl, Nat.le_of_ble_eq_true rfl⟩) hK hP hD hS [0, 2] rfl (fun k q h => by simp at h) (sp_nsub hN [0, 2] (by decide) rfl) rfl rfl rfl (ci := 3) rfl rfl rfl rfl hl.1 rfl (Nat.le_of_ble_eq_true rfl) dX3_tickOf_109 ⟨Nat.le_of_ble_eq_true rfl, Nat.le_of_ble_eq_true rfl⟩ (fun H locs hP hD hS => ?_)
      rw [setT_setT] at hP hD
      refine lv_aload_n hx hb dX3_tickOf_112 rfl (lv_at hl 0 rfl) ?_
      refine lv_iload_n hx hb dX3_tickOf_113 rfl (lv_at hl 1 rfl) ?_
      refine lv_bipush (v := 14) hx hb dX3_tickOf_114 (by decide) ?_
      refine lv_iconst (v := 0) hx hb dX3_tickOf_116 (by decide) ?_
      refine sp_vV (rest := []) (As := [.int (nI i), .int (nI 14), .int 0]) (W1 := [(mo, oM (upd MF 4 B) g0 t0 z0), (g0, aI cI 39 g), (t0, aI cI 174 (tab (setT (setT tv i (upd E 12 ((E 12) - 1), P, L, G)) i (upd (upd E 12 ((E 12) - 1)) 14 0, P, L, G))))]) ⟨hx, hb, hml, hown, hts⟩ (mX3_set l D cI cT mo g0 t0 z0 (upd MF 4 B) (setT tv i (upd E 12 ((E 12) - 1), P, L, G)) i 14 0 (upd (upd E 12 ((E 12) - 1)) 14 0, P, L, G) (by omega) (by omega) (fun b _ => by rw [setT_i _ _ _]; exact rs_F (by decide) b)) (cwV 3 hts gX3_tickOf_X3_set rfl rfl rfl (by decide +kernel) ⟨Nat.le_of_ble_eq_true rfl, Nat.le_of_ble_eq_true rfl⟩) hK hP hD hS [0, 2] rfl (fun k q h => by simp at h) (sp_nsub hN [0, 2] (by decide) rfl) rfl rfl rfl (ci := 3) rfl rfl rfl rfl hl.1 rfl (Nat.le_of_ble_eq_true rfl) dX3_tickOf_117 ⟨Nat.le_of_ble_eq_true rfl, Nat.le_of_ble_eq_true rfl⟩ (fun H locs hP hD hS => ?_)
      rw [setT_setT] at hP hD
      refine lv_aload_n hx hb dX3_tickOf_120 rfl (lv_at hl 0 rfl) ?_
      refine lv_iload_n hx hb dX3_tickOf_121 rfl (lv_at hl 1 rfl) ?_
      refine lv_iconst (v := 0) hx hb dX3_tickOf_122 (by decide) ?_
      refine sp_vV (rest := []) (As := [.int (nI i), .int 0]) (W1 := [(mo, oM (upd MF 4 B) g0 t0 z0), (g0, aI cI 39 g), (t0, aI cI 174 (tab (setT (setT tv i (upd (upd E 12 ((E 12) - 1)) 14 0, P, L, G)) i (mBreathe 0 (upd (upd E 12 ((E 12) - 1)) 14 0, P, L, G)))))]) ⟨hx, hb, hml, hown, hts⟩ (mX3_breathe l D cI cT mo g0 t0 z0 (upd MF 4 B)  (setT tv i (upd (upd E 12 ((E 12) - 1)) 14 0, P, L, G)) i (by omega) (upd (upd E 12 ((E 12) - 1)) 14 0) P L G (setT_i _ _ _) 0) (cwV 2 hts gX3_tickOf_X3_breathe rfl rfl rfl (by decide +kernel) ⟨Nat.le_of_ble_eq_true rfl, Nat.le_of_ble_eq_true rfl⟩) hK hP hD hS [0, 2] rfl (fun k q h => by simp at h) (sp_nsub hN [0, 2] (by decide) rfl) rfl rfl rfl (ci := 3) rfl rfl rfl rfl hl.1 rfl (Nat.le_of_ble_eq_true rfl) dX3_tickOf_123 ⟨Nat.le_of_ble_eq_true rfl, Nat.le_of_ble_eq_true rfl⟩ (fun H locs hP hD hS => ?_)
      rw [setT_setT] at hP hD
      subst hQ
      have hP9 : va_P D vwCl [(mo, oM (upd MF 4 (mBk (F, P, L, G) (MF 4))) g0 t0 z0), (g0, aI cI 39 g), (t0, aI cI 174 (tab (setT tv i (mTick n nh g ns (MF 3) (MF 1) (F, P, L, G)))))] H := by rw [← eB, show mTick n nh g ns (MF 3) (MF 1) (F, P, L, G) = (upd (upd (upd E 12 ((E 12) - 1)) 14 0) 10 (mBr (E 10) 0), P, L, G) from by unfold mTick; rw [if_neg (not_not_intro cj), ← eE, if_pos c93]; rfl]; exact hP
      subst hAe
      exact W.vret hx hb hr (fun t ht hW => ⟨⟨(), rfl, trivial, by show va_P D vwCl _ t.heap; rw [ht]; exact hP9⟩, hS.F ht⟩) hS.2.2 dX3_tickOf_126
  refine lv_aload_n hx hb dX3_tickOf_0 rfl (lv_at hl 0 rfl) ?_
  refine lv_iload_n hx hb dX3_tickOf_1 rfl (lv_at hl 1 rfl) ?_
  refine lv_bipush (v := 13) hx hb dX3_tickOf_2 (by decide) ?_
  refine sp_rV (rest := []) (As := [.int (nI i), .int (nI 13)]) ⟨hx, hb, hml, hown, hts⟩ (mX3_get l D cI cT mo g0 t0 z0 MF (setT tv i (F, P, L, G)) i 13 (F 13) (by omega) (by omega) (by rw [setT_i _ _ _]; rfl)) (cwV 2 hts gX3_tickOf_X3_get rfl rfl rfl (by decide +kernel) ⟨Nat.le_of_ble_eq_true rfl, Nat.le_of_ble_eq_true rfl⟩) hK (sp_pick hP [0, 2] rfl) (ci := 3) rfl rfl rfl rfl hl.1 rfl (Nat.le_of_ble_eq_true rfl) dX3_tickOf_4 ⟨Nat.le_of_ble_eq_true rfl, Nat.le_of_ble_eq_true rfl⟩ ?_
  refine lv_iconst (v := (-1)) hx hb dX3_tickOf_7 (by decide) ?_
  refine lv_icmp_eq (tgt := 12) hx hb dX3_tickOf_8 (by decide) (fun c8 => ?_) (fun c8 => ?_)
  · skip
    refine lv_aload_n hx hb dX3_tickOf_12 rfl (lv_at hl 0 rfl) ?_
    refine lv_iload_n hx hb dX3_tickOf_13 rfl (lv_at hl 1 rfl) ?_
    refine lv_bipush (v := 12) hx hb dX3_tickOf_14 (by decide) ?_
    refine sp_rV (rest := []) (As := [.int (nI i), .int (nI 12)]) ⟨hx, hb, hml, hown, hts⟩ (mX3_get l D cI cT mo g0 t0 z0 MF (setT tv i (F, P, L, G)) i 12 (F 12) (by omega) (by omega) (by rw [setT_i _ _ _]; rfl)) (cwV 2 hts gX3_tickOf_X3_get rfl rfl rfl (by decide +kernel) ⟨Nat.le_of_ble_eq_true rfl, Nat.le_of_ble_eq_true rfl⟩) hK (sp_pick hP [0, 2] rfl) (ci := 3) rfl rfl rfl rfl hl.1 rfl (Nat.le_of_ble_eq_true rfl) dX3_tickOf_16 ⟨Nat.le_of_ble_eq_true rfl, Nat.le_of_ble_eq_true rfl⟩ ?_
    refine lv_if_ne (tgt := 86) hx hb dX3_tickOf_19 (by decide) (fun c19 => ?_) (fun c19 => ?_)
    · skip
      exact join86 F (MF 4) (by unfold mSnap mSnaps; rw [if_neg (by rw [decide_eq_false (fun q => c19 q.1)]; decide)]) (by unfold mBk mSnaps; rw [if_neg (fun q => c19 (of_decide_eq_true q.2).1)]) (h2) (hh) (hw) (c8) _ _ hP hD hS ls (lv_sub hl [0, 1] rfl)
    · skip
      refine lv_aload_n hx hb dX3_tickOf_22 rfl (lv_at hl 0 rfl) ?_
      refine lv_iload_n hx hb dX3_tickOf_23 rfl (lv_at hl 1 rfl) ?_
      refine sp_rV (rest := []) (As := [.int (nI i)]) ⟨hx, hb, hml, hown, hts⟩ (mX3_pull l D cI cT mo g0 t0 z0 MF (setT tv i (F, P, L, G)) i (by omega) F P L G (setT_i _ _ _) ) (cwV 1 hts gX3_tickOf_X3_pull rfl rfl rfl (by decide +kernel) ⟨Nat.le_of_ble_eq_true rfl, Nat.le_of_ble_eq_true rfl⟩) hK (sp_pick hP [0, 2] rfl) (ci := 3) rfl rfl rfl rfl hl.1 rfl (Nat.le_of_ble_eq_true rfl) dX3_tickOf_24 ⟨Nat.le_of_ble_eq_true rfl, Nat.le_of_ble_eq_true rfl⟩ ?_
      refine lv_aload_n hx hb dX3_tickOf_27 rfl (lv_at hl 0 rfl) ?_
      refine lv_iload_n hx hb dX3_tickOf_28 rfl (lv_at hl 1 rfl) ?_
      refine lv_bipush (v := 11) hx hb dX3_tickOf_29 (by decide) ?_
      refine sp_rV (rest := [.int (mPull F)]) (As := [.int (nI i), .int (nI 11)]) ⟨hx, hb, hml, hown, hts⟩ (mX3_get l D cI cT mo g0 t0 z0 MF (setT tv i (F, P, L, G)) i 11 (F 11) (by omega) (by omega) (by rw [setT_i _ _ _]; rfl)) (cwV 2 hts gX3_tickOf_X3_get rfl rfl rfl (by decide +kernel) ⟨Nat.le_of_ble_eq_true rfl, Nat.le_of_ble_eq_true rfl⟩) hK (sp_pick hP [0, 2] rfl) (ci := 3) rfl rfl rfl rfl hl.1 rfl (Nat.le_of_ble_eq_true rfl) dX3_tickOf_31 ⟨Nat.le_of_ble_eq_true rfl, Nat.le_of_ble_eq_true rfl⟩ ?_
      refine lx_icmp_le (tgt := 86) hx hb dX3_tickOf_34 (by decide) (fun c34 => ?_) (fun c34 => ?_)
      · skip
        exact join86 F (MF 4) (by unfold mSnap mSnaps; rw [if_neg (by rw [decide_eq_false (fun q => c34 q.2)]; decide)]) (by unfold mBk mSnaps; rw [if_neg (fun q => c34 (of_decide_eq_true q.2).2)]) (h2) (hh) (hw) (c8) _ _ hP hD hS ls (lv_sub hl [0, 1] rfl)
      · skip
        refine lv_aload_n hx hb dX3_tickOf_37 rfl (lv_at hl 0 rfl) ?_
        refine lv_iload_n hx hb dX3_tickOf_38 rfl (lv_at hl 1 rfl) ?_
        refine lv_bipush (v := 11) hx hb dX3_tickOf_39 (by decide) ?_
        refine lv_bipush (v := 10) hx hb dX3_tickOf_41 (by decide) ?_
        refine lv_aload_n hx hb dX3_tickOf_43 rfl (lv_at hl 0 rfl) ?_
        refine lv_iload_n hx hb dX3_tickOf_44 rfl (lv_at hl 1 rfl) ?_
        refine lv_bipush (v := 11) hx hb dX3_tickOf_45 (by decide) ?_
        refine sp_rV (rest := [.int 10, .int 11, .int (nI i), .ref mo]) (As := [.int (nI i), .int (nI 11)]) ⟨hx, hb, hml, hown, hts⟩ (mX3_get l D cI cT mo g0 t0 z0 MF (setT tv i (F, P, L, G)) i 11 (F 11) (by omega) (by omega) (by rw [setT_i _ _ _]; rfl)) (cwV 2 hts gX3_tickOf_X3_get rfl rfl rfl (by decide +kernel) ⟨Nat.le_of_ble_eq_true rfl, Nat.le_of_ble_eq_true rfl⟩) hK (sp_pick hP [0, 2] rfl) (ci := 3) rfl rfl rfl rfl hl.1 rfl (Nat.le_of_ble_eq_true rfl) dX3_tickOf_47 ⟨Nat.le_of_ble_eq_true rfl, Nat.le_of_ble_eq_true rfl⟩ ?_
        refine lv_aload_n hx hb dX3_tickOf_50 rfl (lv_at hl 0 rfl) ?_
        refine lv_iload_n hx hb dX3_tickOf_51 rfl (lv_at hl 1 rfl) ?_
        refine lv_bipush (v := 11) hx hb dX3_tickOf_52 (by decide) ?_
        refine sp_rV (rest := [.int (F 11), .int 10, .int 11, .int (nI i), .ref mo]) (As := [.int (nI i), .int (nI 11)]) ⟨hx, hb, hml, hown, hts⟩ (mX3_get l D cI cT mo g0 t0 z0 MF (setT tv i (F, P, L, G)) i 11 (F 11) (by omega) (by omega) (by rw [setT_i _ _ _]; rfl)) (cwV 2 hts gX3_tickOf_X3_get rfl rfl rfl (by decide +kernel) ⟨Nat.le_of_ble_eq_true rfl, Nat.le_of_ble_eq_true rfl⟩) hK (sp_pick hP [0, 2] rfl) (ci := 3) rfl rfl rfl rfl hl.1 rfl (Nat.le_of_ble_eq_true rfl) dX3_tickOf_54 ⟨Nat.le_of_ble_eq_true rfl, Nat.le_of_ble_eq_true rfl⟩ ?_
        refine lv_bipush (v := 10) hx hb dX3_tickOf_57 (by decide) ?_
        refine lv_idiv hx hb dX3_tickOf_59 (by decide) ?_
        refine lv_isub hx hb dX3_tickOf_60 ?_
        refine va_mmax hx hb (hml.trans hl.1.symm) hown (hts (.methodLink RX3 78 Lib.Math.max.name) (by decide +kernel)) (hts (.static Lib.Math.max.name) (by decide +kernel)) (hts (.initialized "java/lang/Math") (by decide +kernel)) (hts (.code Lib.Math.max.name Lib.Math.max.code 2 (some .int)) (by decide +kernel)) (Nat.le_of_ble_eq_true rfl) (Nat.le_of_ble_eq_true rfl) (Nat.le_of_ble_eq_true rfl) (Nat.le_of_ble_eq_true rfl) dX3_tickOf_61 ?_
        change W _ _ _ _ _ _ _ _ _ _ _ _ _ _ _ (F0 m 64 ls (.int (imax 10 ((F 11) - ((F 11) / 10))) :: _))
        refine sp_vV (rest := []) (As := [.int (nI i), .int (nI 11), .int (imax 10 ((F 11) - ((F 11) / 10)))]) (W1 := [(mo, oM MF g0 t0 z0), (g0, aI cI 39 g), (t0, aI cI 174 (tab (setT (setT tv i (F, P, L, G)) i (upd F 11 (imax 10 ((F 11) - ((F 11) / 10))), P, L, G))))]) ⟨hx, hb, hml, hown, hts⟩ (mX3_set l D cI cT mo g0 t0 z0 MF (setT tv i (F, P, L, G)) i 11 (imax 10 ((F 11) - ((F 11) / 10))) (upd F 11 (imax 10 ((F 11) - ((F 11) / 10))), P, L, G) (by omega) (by omega) (fun b _ => by rw [setT_i _ _ _]; exact rs_F (by decide) b)) (cwV 3 hts gX3_tickOf_X3_set rfl rfl rfl (by decide +kernel) ⟨Nat.le_of_ble_eq_true rfl, Nat.le_of_ble_eq_true rfl⟩) hK hP hD hS [0, 2] rfl (fun k q h => by simp at h) (sp_nsub hN [0, 2] (by decide) rfl) rfl rfl rfl (ci := 3) rfl rfl rfl rfl hl.1 rfl (Nat.le_of_ble_eq_true rfl) dX3_tickOf_64 ⟨Nat.le_of_ble_eq_true rfl, Nat.le_of_ble_eq_true rfl⟩ (fun H locs hP hD hS => ?_)
        rw [setT_setT] at hP hD
        refine lv_aload_n hx hb dX3_tickOf_67 rfl (lv_at hl 0 rfl) ?_
        refine lv_iload_n hx hb dX3_tickOf_68 rfl (lv_at hl 1 rfl) ?_
        refine lv_bipush (v := 12) hx hb dX3_tickOf_69 (by decide) ?_
        refine lv_bipush (v := nI 15) hx hb dX3_tickOf_71 (by decide) ?_
        refine sp_vV (rest := []) (As := [.int (nI i), .int (nI 12), .int (nI 15)]) (W1 := [(mo, oM MF g0 t0 z0), (g0, aI cI 39 g), (t0, aI cI 174 (tab (setT (setT tv i (upd F 11 (imax 10 ((F 11) - ((F 11) / 10))), P, L, G)) i (upd (upd F 11 (imax 10 ((F 11) - ((F 11) / 10)))) 12 (nI 15), P, L, G))))]) ⟨hx, hb, hml, hown, hts⟩ (mX3_set l D cI cT mo g0 t0 z0 MF (setT tv i (upd F 11 (imax 10 ((F 11) - ((F 11) / 10))), P, L, G)) i 12 (nI 15) (upd (upd F 11 (imax 10 ((F 11) - ((F 11) / 10)))) 12 (nI 15), P, L, G) (by omega) (by omega) (fun b _ => by rw [setT_i _ _ _]; exact rs_F (by decide) b)) (cwV 3 hts gX3_tickOf_X3_set rfl rfl rfl (by decide +kernel) ⟨Nat.le_of_ble_eq_true rfl, Nat.le_of_ble_eq_true rfl⟩) hK hP hD hS [0, 2] rfl (fun k q h => by simp at h) (sp_nsub hN [0, 2] (by decide) rfl) rfl rfl rfl (ci := 3) rfl rfl rfl rfl hl.1 rfl (Nat.le_of_ble_eq_true rfl) dX3_tickOf_73 ⟨Nat.le_of_ble_eq_true rfl, Nat.le_of_ble_eq_true rfl⟩ (fun H locs hP hD hS => ?_)
        rw [setT_setT] at hP hD
        refine lv_aload_n hx hb dX3_tickOf_76 rfl (lv_at hl 0 rfl) ?_
        refine lv_dup hx hb dX3_tickOf_77 rfl ?_
        refine va_get (D := D) (ci := 3) (v := .int (MF 4)) (C := RX3) (T := TX3) (N := 9) hx hb hts hiX3 hown hK.1 hP 0 rfl rfl 4 (by decide) (hts (.fieldLink RX3 95 "SledgeRaceModel" "broke" "I") (by decide +kernel)) (fun _ h9 => h9) rfl dX3_tickOf_78 ?_
        refine lv_iconst (v := 1) hx hb dX3_tickOf_81 (by decide) ?_
        refine lv_iadd hx hb dX3_tickOf_82 ?_
        refine va_put (D := D) (ci := 3) (v := .int ((MF 4) + 1)) (ty := .int) (C := RX3) (T := TX3) (N := 9) hx hb hts hiX3 tyX3 tyX3_ok nmX3 hown hK.1 hP hD hS 0 rfl rfl 4 (by decide) (hts (.fieldLink RX3 95 "SledgeRaceModel" "broke" "I") (by decide +kernel)) (fun _ h9 => h9) rfl (by decide +kernel) rfl rfl (Nat.le_of_ble_eq_true rfl) dX3_tickOf_83 (fun H locs hP hD hS => ?_)
        have hP : va_P D vwCl [(mo, oM (upd MF 4 ((MF 4) + 1)) g0 t0 z0), (g0, aI cI 39 g), (t0, aI cI 174 (tab (setT tv i (upd (upd F 11 (imax 10 ((F 11) - ((F 11) / 10)))) 12 (nI 15), P, L, G))))] H := hP
        have hD : va_D A [(mo, oM (upd MF 4 ((MF 4) + 1)) g0 t0 z0), (g0, aI cI 39 g), (t0, aI cI 174 (tab (setT tv i (upd (upd F 11 (imax 10 ((F 11) - ((F 11) / 10)))) 12 (nI 15), P, L, G))))] := hD
        exact join86 (upd (upd F 11 (imax 10 ((F 11) - ((F 11) / 10)))) 12 (nI 15)) ((MF 4) + 1) (by unfold mSnap mSnaps; rw [if_pos (decide_eq_true ⟨c19, c34⟩)]; rfl) (by unfold mBk mSnaps; rw [if_pos ⟨c8, decide_eq_true ⟨c19, c34⟩⟩]) (h2) (hh) (hw) (c8) _ _ hP hD hS ls (lv_sub hl [0, 1] rfl)
  · skip
    subst hQ
    have hP9 : va_P D vwCl [(mo, oM (upd MF 4 (mBk (F, P, L, G) (MF 4))) g0 t0 z0), (g0, aI cI 39 g), (t0, aI cI 174 (tab (setT tv i (mTick n nh g ns (MF 3) (MF 1) (F, P, L, G)))))] H := by rw [show mBk (F, P, L, G) (MF 4) = MF 4 from by unfold mBk; rw [if_neg (fun q => c8 q.1)], show mTick n nh g ns (MF 3) (MF 1) (F, P, L, G) = (F, P, L, G) from by unfold mTick; rw [if_pos c8]]; exact hP
    subst hAe
    exact W.vret hx hb hr (fun t ht hW => ⟨⟨(), rfl, trivial, by show va_P D vwCl _ t.heap; rw [ht]; exact hP9⟩, hS.F ht⟩) hS.2.2 dX3_tickOf_11
