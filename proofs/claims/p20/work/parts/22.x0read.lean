abbrev rmX0_sideOf : Room := { frames := 0, cells := 0, slots := 0, locals := 0 }
set_option maxHeartbeats 4000000 in
set_option maxRecDepth 100000 in
/-- where a place lies -/
theorem mX0_sideOf (l : Launch) (D : va_G) (cI cT : ClassId) (a0 a1 a2 a3 : Nat) (F : Nat → Int32) (x : Int32) : MetR l D cI cT yX0_sideOf wsX0_sideOf rmX0_sideOf [.ref a0, .int x] [(a0, oT F a1 a2 a3)] (cSide F x) := by
  refine Met.ofW (cc := cX0_sideOf) (maxL := 2) (ret := (some .int)) (by decide) rfl ?_
  intro p e s m args below meth c s₁ B hml hv
  obtain ⟨hargs, hP, hK⟩ := hv
  have hx := B.exec
  have hb := B.bytes
  have hr := B.returns
  have hts := atoms_spec (ws := wsX0_sideOf) B.pre
  have hown : s.vm.findClass RX0 = some m.cls := findClass_of_methodNamed B.named
  have hlocks := B.notSynchronized
  have hiX0 : ∀ w ∈ u_ws RX0 TX0 20, w ∈ wsX0_sideOf := by decide +kernel
  have he : entryFrame m args 2 = F0 m 0 ((lg_sl [.ref a0, .int x] ++ List.replicate (2 - (lg_sl [.ref a0, .int x]).length) Slot.unset).toArray) [] := by rw [hargs]; exact lg_entry_eq m _ _
  rw [he]
  change W p l e rmX0_sideOf s m args below meth c s.heap [] 0 0 (MQ below (QcRead (cSide F x)) args s 0 0 (fun _ => False)) _
  obtain ⟨Q, hQ⟩ : ∃ Q, Q = MQ below (QcRead (cSide F x)) args s 0 0 (fun _ => False) := ⟨_, rfl⟩
  rw [← hQ]
  have hl := lv_entry [.ref a0, .int x] (n := 2) (Nat.le_of_ble_eq_true rfl)
  generalize (lg_sl [.ref a0, .int x] ++ List.replicate (2 - (lg_sl [.ref a0, .int x]).length) Slot.unset).toArray = ls at hl ⊢
  have hl : lv_has ls 2 [(0, .ref a0), (1, .int x)] := hl
  refine lv_iload_n hx hb dX0_sideOf_0 rfl (lv_at hl 1 rfl) ?_
  refine lv_sipush (v := (-9999)) hx hb dX0_sideOf_1 (by decide) ?_
  refine lv_icmp_ne (tgt := 9) hx hb dX0_sideOf_4 (by decide) (fun c4 => ?_) (fun c4 => ?_)
  · skip
    refine lv_iload_n hx hb dX0_sideOf_9 rfl (lv_at hl 1 rfl) ?_
    refine lv_aload_n hx hb dX0_sideOf_10 rfl (lv_at hl 0 rfl) ?_
    refine va_get (D := D) (ci := 0) (v := .int (F 10)) (C := RX0) (T := TX0) (N := 20) hx hb hts hiX0 hown hK.1 hP 0 rfl rfl 10 (by decide) (hts (.fieldLink RX0 53 "SledgeRace$Team" "front" "I") (by decide +kernel)) (fun _ h9 => h9) rfl dX0_sideOf_11 ?_
    refine lv_aload_n hx hb dX0_sideOf_14 rfl (lv_at hl 0 rfl) ?_
    refine va_get (D := D) (ci := 0) (v := .int (F 1)) (C := RX0) (T := TX0) (N := 20) hx hb hts hiX0 hown hK.1 hP 0 rfl rfl 1 (by decide) (hts (.fieldLink RX0 13 "SledgeRace$Team" "length" "I") (by decide +kernel)) (fun _ h9 => h9) rfl dX0_sideOf_15 ?_
    refine lv_isub hx hb dX0_sideOf_18 ?_
    refine lx_icmp_ge (tgt := 24) hx hb dX0_sideOf_19 (by decide) (fun c19 => ?_) (fun c19 => ?_)
    · skip
      refine lv_iload_n hx hb dX0_sideOf_24 rfl (lv_at hl 1 rfl) ?_
      refine lv_aload_n hx hb dX0_sideOf_25 rfl (lv_at hl 0 rfl) ?_
      refine va_get (D := D) (ci := 0) (v := .int (F 10)) (C := RX0) (T := TX0) (N := 20) hx hb hts hiX0 hown hK.1 hP 0 rfl rfl 10 (by decide) (hts (.fieldLink RX0 53 "SledgeRace$Team" "front" "I") (by decide +kernel)) (fun _ h9 => h9) rfl dX0_sideOf_26 ?_
      refine lx_icmp_le (tgt := 36) hx hb dX0_sideOf_29 (by decide) (fun c29 => ?_) (fun c29 => ?_)
      · skip
        refine lv_iconst (v := 0) hx hb dX0_sideOf_36 (by decide) ?_
        refine sp_top (show 0 = cSide F x from by simp only [cSide, if_neg c4, if_neg c19, if_neg c29]) ?_
        subst hQ
        exact W.iret hx hb hr (fun t ht _ => ⟨rfl, ht⟩) (fun _ h => nomatch h) dX0_sideOf_37
      · skip
        refine lv_iconst (v := 2) hx hb dX0_sideOf_32 (by decide) ?_
        refine lv_goto (tgt := 37) hx hb dX0_sideOf_33 (by decide) ?_
        refine sp_top (show 2 = cSide F x from by simp only [cSide, if_neg c4, if_neg c19, if_pos c29]) ?_
        subst hQ
        exact W.iret hx hb hr (fun t ht _ => ⟨rfl, ht⟩) (fun _ h => nomatch h) dX0_sideOf_37
    · skip
      refine lv_iconst (v := 1) hx hb dX0_sideOf_22 (by decide) ?_
      refine sp_top (show 1 = cSide F x from by simp only [cSide, if_neg c4, if_pos c19]) ?_
      subst hQ
      exact W.iret hx hb hr (fun t ht _ => ⟨rfl, ht⟩) (fun _ h => nomatch h) dX0_sideOf_23
  · skip
    refine lv_iconst (v := 3) hx hb dX0_sideOf_7 (by decide) ?_
    refine sp_top (show 3 = cSide F x from by simp only [cSide, if_pos c4]) ?_
    subst hQ
    exact W.iret hx hb hr (fun t ht _ => ⟨rfl, ht⟩) (fun _ h => nomatch h) dX0_sideOf_8

abbrev rmX0_isAtEnd : Room := { frames := 0, cells := 0, slots := 0, locals := 0 }
set_option maxHeartbeats 4000000 in
set_option maxRecDepth 100000 in
/-- has it come to the end -/
theorem mX0_isAtEnd (l : Launch) (D : va_G) (cI cT : ClassId) (a0 a1 a2 a3 : Nat) (F : Nat → Int32) : MetR l D cI cT yX0_isAtEnd wsX0_isAtEnd rmX0_isAtEnd [.ref a0] [(a0, oT F a1 a2 a3)] (bI (cE F)) := by
  refine Met.ofW (cc := cX0_isAtEnd) (maxL := 1) (ret := (some .boolean)) (by decide) rfl ?_
  intro p e s m args below meth c s₁ B hml hv
  obtain ⟨hargs, hP, hK⟩ := hv
  have hx := B.exec
  have hb := B.bytes
  have hr := B.returns
  have hts := atoms_spec (ws := wsX0_isAtEnd) B.pre
  have hown : s.vm.findClass RX0 = some m.cls := findClass_of_methodNamed B.named
  have hlocks := B.notSynchronized
  have hiX0 : ∀ w ∈ u_ws RX0 TX0 20, w ∈ wsX0_isAtEnd := by decide +kernel
  have he : entryFrame m args 1 = F0 m 0 ((lg_sl [.ref a0] ++ List.replicate (1 - (lg_sl [.ref a0]).length) Slot.unset).toArray) [] := by rw [hargs]; exact lg_entry_eq m _ _
  rw [he]
  change W p l e rmX0_isAtEnd s m args below meth c s.heap [] 0 0 (MQ below (QcRead (bI (cE F))) args s 0 0 (fun _ => False)) _
  obtain ⟨Q, hQ⟩ : ∃ Q, Q = MQ below (QcRead (bI (cE F))) args s 0 0 (fun _ => False) := ⟨_, rfl⟩
  rw [← hQ]
  have hl := lv_entry [.ref a0] (n := 1) (Nat.le_of_ble_eq_true rfl)
  generalize (lg_sl [.ref a0] ++ List.replicate (1 - (lg_sl [.ref a0]).length) Slot.unset).toArray = ls at hl ⊢
  have hl : lv_has ls 1 [(0, .ref a0)] := hl
  refine lv_aload_n hx hb dX0_isAtEnd_0 rfl (lv_at hl 0 rfl) ?_
  refine va_get (D := D) (ci := 0) (v := .int (F 16)) (C := RX0) (T := TX0) (N := 20) hx hb hts hiX0 hown hK.1 hP 0 rfl rfl 16 (by decide) (hts (.fieldLink RX0 71 "SledgeRace$Team" "endTick" "I") (by decide +kernel)) (fun _ h9 => h9) rfl dX0_isAtEnd_1 ?_
  refine lv_iconst (v := (-1)) hx hb dX0_isAtEnd_4 (by decide) ?_
  refine lv_icmp_eq (tgt := 12) hx hb dX0_isAtEnd_5 (by decide) (fun c5 => ?_) (fun c5 => ?_)
  · skip
    refine lv_iconst (v := 0) hx hb dX0_isAtEnd_12 (by decide) ?_
    refine sp_top (show 0 = bI (cE F) from by simp [bI, cE, c5]) ?_
    subst hQ
    exact W.zret hx hb hr (bI_nar _) (fun t ht _ => ⟨rfl, ht⟩) (fun _ h => nomatch h) dX0_isAtEnd_13
  · skip
    refine lv_iconst (v := 1) hx hb dX0_isAtEnd_8 (by decide) ?_
    refine lv_goto (tgt := 13) hx hb dX0_isAtEnd_9 (by decide) ?_
    refine sp_top (show 1 = bI (cE F) from by simp [bI, cE, c5]) ?_
    subst hQ
    exact W.zret hx hb hr (bI_nar _) (fun t ht _ => ⟨rfl, ht⟩) (fun _ h => nomatch h) dX0_isAtEnd_13

abbrev rmX0_pull : Room := { frames := 0, cells := 0, slots := 0, locals := 0 }
set_option maxHeartbeats 4000000 in
set_option maxRecDepth 100000 in
/-- the pull -/
theorem mX0_pull (l : Launch) (D : va_G) (cI cT : ClassId) (a0 a1 a2 a3 : Nat) (F : Nat → Int32) : MetR l D cI cT yX0_pull wsX0_pull rmX0_pull [.ref a0] [(a0, oT F a1 a2 a3)] (cPull F) := by
  refine Met.ofW (cc := cX0_pull) (maxL := 1) (ret := (some .int)) (by decide) rfl ?_
  intro p e s m args below meth c s₁ B hml hv
  obtain ⟨hargs, hP, hK⟩ := hv
  have hx := B.exec
  have hb := B.bytes
  have hr := B.returns
  have hts := atoms_spec (ws := wsX0_pull) B.pre
  have hown : s.vm.findClass RX0 = some m.cls := findClass_of_methodNamed B.named
  have hlocks := B.notSynchronized
  have hiX0 : ∀ w ∈ u_ws RX0 TX0 20, w ∈ wsX0_pull := by decide +kernel
  have he : entryFrame m args 1 = F0 m 0 ((lg_sl [.ref a0] ++ List.replicate (1 - (lg_sl [.ref a0]).length) Slot.unset).toArray) [] := by rw [hargs]; exact lg_entry_eq m _ _
  rw [he]
  change W p l e rmX0_pull s m args below meth c s.heap [] 0 0 (MQ below (QcRead (cPull F)) args s 0 0 (fun _ => False)) _
  obtain ⟨Q, hQ⟩ : ∃ Q, Q = MQ below (QcRead (cPull F)) args s 0 0 (fun _ => False) := ⟨_, rfl⟩
  rw [← hQ]
  have hl := lv_entry [.ref a0] (n := 1) (Nat.le_of_ble_eq_true rfl)
  generalize (lg_sl [.ref a0] ++ List.replicate (1 - (lg_sl [.ref a0]).length) Slot.unset).toArray = ls at hl ⊢
  have hl : lv_has ls 1 [(0, .ref a0)] := hl
  refine lv_aload_n hx hb dX0_pull_0 rfl (lv_at hl 0 rfl) ?_
  refine va_get (D := D) (ci := 0) (v := .int (F 4)) (C := RX0) (T := TX0) (N := 20) hx hb hts hiX0 hown hK.1 hP 0 rfl rfl 4 (by decide) (hts (.fieldLink RX0 22 "SledgeRace$Team" "pullers" "I") (by decide +kernel)) (fun _ h9 => h9) rfl dX0_pull_1 ?_
  refine lv_aload_n hx hb dX0_pull_4 rfl (lv_at hl 0 rfl) ?_
  refine va_get (D := D) (ci := 0) (v := .int (F 5)) (C := RX0) (T := TX0) (N := 20) hx hb hts hiX0 hown hK.1 hP 0 rfl rfl 5 (by decide) (hts (.fieldLink RX0 25 "SledgeRace$Team" "strength" "I") (by decide +kernel)) (fun _ h9 => h9) rfl dX0_pull_5 ?_
  refine lv_imul hx hb dX0_pull_8 ?_
  refine lv_aload_n hx hb dX0_pull_9 rfl (lv_at hl 0 rfl) ?_
  refine va_get (D := D) (ci := 0) (v := .int (F 8)) (C := RX0) (T := TX0) (N := 20) hx hb hts hiX0 hown hK.1 hP 0 rfl rfl 8 (by decide) (hts (.fieldLink RX0 34 "SledgeRace$Team" "effort" "I") (by decide +kernel)) (fun _ h9 => h9) rfl dX0_pull_10 ?_
  refine lv_imul hx hb dX0_pull_13 ?_
  refine lv_sipush (v := 500) hx hb dX0_pull_14 (by decide) ?_
  refine lv_aload_n hx hb dX0_pull_17 rfl (lv_at hl 0 rfl) ?_
  refine va_get (D := D) (ci := 0) (v := .int (F 11)) (C := RX0) (T := TX0) (N := 20) hx hb hts hiX0 hown hK.1 hP 0 rfl rfl 11 (by decide) (hts (.fieldLink RX0 56 "SledgeRace$Team" "breath" "I") (by decide +kernel)) (fun _ h9 => h9) rfl dX0_pull_18 ?_
  refine lv_iadd hx hb dX0_pull_21 ?_
  refine lv_imul hx hb dX0_pull_22 ?_
  refine lv_sipush (v := 5000) hx hb dX0_pull_23 (by decide) ?_
  refine lv_idiv hx hb dX0_pull_26 (by decide) ?_
  subst hQ
  exact W.iret hx hb hr (fun t ht _ => ⟨rfl, ht⟩) (fun _ h => nomatch h) dX0_pull_27

abbrev rmX0_wayWith : Room := { frames := 1, cells := 0, slots := 0, locals := 14 }
set_option maxHeartbeats 4000000 in
set_option maxRecDepth 100000 in
/-- the way -/
theorem mX0_wayWith (l : Launch) (D : va_G) (cI cT : ClassId) (a0 a1 a2 a3 : Nat) (F : Nat → Int32) (a b : Int32) : MetR l D cI cT yX0_wayWith wsX0_wayWith rmX0_wayWith [.ref a0, .int a, .int b] [(a0, oT F a1 a2 a3)] (cWay F a b) := by
  refine Met.ofW (cc := cX0_wayWith) (maxL := 3) (ret := (some .int)) (by decide) rfl ?_
  intro p e s m args below meth c s₁ B hml hv
  obtain ⟨hargs, hP, hK⟩ := hv
  have hx := B.exec
  have hb := B.bytes
  have hr := B.returns
  have hts := atoms_spec (ws := wsX0_wayWith) B.pre
  have hown : s.vm.findClass RX0 = some m.cls := findClass_of_methodNamed B.named
  have hlocks := B.notSynchronized
  have hiX0 : ∀ w ∈ u_ws RX0 TX0 20, w ∈ wsX0_wayWith := by decide +kernel
  have he : entryFrame m args 3 = F0 m 0 ((lg_sl [.ref a0, .int a, .int b] ++ List.replicate (3 - (lg_sl [.ref a0, .int a, .int b]).length) Slot.unset).toArray) [] := by rw [hargs]; exact lg_entry_eq m _ _
  rw [he]
  change W p l e rmX0_wayWith s m args below meth c s.heap [] 0 0 (MQ below (QcRead (cWay F a b)) args s 0 0 (fun _ => False)) _
  obtain ⟨Q, hQ⟩ : ∃ Q, Q = MQ below (QcRead (cWay F a b)) args s 0 0 (fun _ => False) := ⟨_, rfl⟩
  rw [← hQ]
  have hl := lv_entry [.ref a0, .int a, .int b] (n := 3) (Nat.le_of_ble_eq_true rfl)
  generalize (lg_sl [.ref a0, .int a, .int b] ++ List.replicate (3 - (lg_sl [.ref a0, .int a, .int b]).length) Slot.unset).toArray = ls at hl ⊢
  have hl : lv_has ls 3 [(0, .ref a0), (1, .int a), (2, .int b)] := hl
  refine lv_aload_n hx hb dX0_wayWith_0 rfl (lv_at hl 0 rfl) ?_
  refine va_get (D := D) (ci := 0) (v := .int (F 2)) (C := RX0) (T := TX0) (N := 20) hx hb hts hiX0 hown hK.1 hP 0 rfl rfl 2 (by decide) (hts (.fieldLink RX0 16 "SledgeRace$Team" "weight" "I") (by decide +kernel)) (fun _ h9 => h9) rfl dX0_wayWith_1 ?_
  refine lv_if_gt (tgt := 9) hx hb dX0_wayWith_4 (by decide) (fun c4 => ?_) (fun c4 => ?_)
  · skip
    refine lv_bipush (v := 12) hx hb dX0_wayWith_9 (by decide) ?_
    refine lv_iconst (v := 0) hx hb dX0_wayWith_11 (by decide) ?_
    refine lv_iload_n hx hb dX0_wayWith_12 rfl (lv_at hl 1 rfl) ?_
    refine lv_iload_n hx hb dX0_wayWith_13 rfl (lv_at hl 2 rfl) ?_
    refine lv_isub hx hb dX0_wayWith_14 ?_
    refine lv_iconst (v := 4) hx hb dX0_wayWith_15 (by decide) ?_
    refine lv_imul hx hb dX0_wayWith_16 ?_
    refine lv_aload_n hx hb dX0_wayWith_17 rfl (lv_at hl 0 rfl) ?_
    refine va_get (D := D) (ci := 0) (v := .int (F 2)) (C := RX0) (T := TX0) (N := 20) hx hb hts hiX0 hown hK.1 hP 0 rfl rfl 2 (by decide) (hts (.fieldLink RX0 16 "SledgeRace$Team" "weight" "I") (by decide +kernel)) (fun _ h9 => h9) rfl dX0_wayWith_18 ?_
    refine lv_idiv hx hb dX0_wayWith_21 (fun h => by rw [h] at c4; exact absurd c4 (by decide)) ?_
    refine va_mmax hx hb (hml.trans hl.1.symm) hown (hts (.methodLink RX0 110 Lib.Math.max.name) (by decide +kernel)) (hts (.static Lib.Math.max.name) (by decide +kernel)) (hts (.initialized "java/lang/Math") (by decide +kernel)) (hts (.code Lib.Math.max.name Lib.Math.max.code 2 (some .int)) (by decide +kernel)) (Nat.le_of_ble_eq_true rfl) (Nat.le_of_ble_eq_true rfl) (Nat.le_of_ble_eq_true rfl) (Nat.le_of_ble_eq_true rfl) dX0_wayWith_22 ?_
    change W _ _ _ _ _ _ _ _ _ _ _ _ _ _ _ (F0 m 25 ls (.int (imax 0 (((a - b) * 4) / (F 2))) :: _))
    refine va_mmin hx hb (hml.trans hl.1.symm) hown (hts (.methodLink RX0 123 Lib.Math.min.name) (by decide +kernel)) (hts (.static Lib.Math.min.name) (by decide +kernel)) (hts (.initialized "java/lang/Math") (by decide +kernel)) (hts (.code Lib.Math.min.name Lib.Math.min.code 2 (some .int)) (by decide +kernel)) (Nat.le_of_ble_eq_true rfl) (Nat.le_of_ble_eq_true rfl) (Nat.le_of_ble_eq_true rfl) (Nat.le_of_ble_eq_true rfl) dX0_wayWith_25 ?_
    change W _ _ _ _ _ _ _ _ _ _ _ _ _ _ _ (F0 m 28 ls (.int (imin 12 (imax 0 (((a - b) * 4) / (F 2)))) :: _))
    refine sp_top (show imin 12 (imax 0 (((a - b) * 4) / (F 2))) = cWay F a b from by simp only [cWay, if_pos c4]) ?_
    subst hQ
    exact W.iret hx hb hr (fun t ht _ => ⟨rfl, ht⟩) (fun _ h => nomatch h) dX0_wayWith_28
  · skip
    refine lv_iconst (v := 0) hx hb dX0_wayWith_7 (by decide) ?_
    refine sp_top (show 0 = cWay F a b from by simp only [cWay, if_neg c4]) ?_
    subst hQ
    exact W.iret hx hb hr (fun t ht _ => ⟨rfl, ht⟩) (fun _ h => nomatch h) dX0_wayWith_8

abbrev rmX0_rollersLying : Room := { frames := 1, cells := 0, slots := 0, locals := 21 }
set_option maxHeartbeats 4000000 in
set_option maxRecDepth 100000 in
/-- how many rollers lie there -/
theorem mX0_rollersLying (l : Launch) (D : va_G) (cI cT : ClassId) (a0 a1 a2 a3 : Nat) (F P : Nat → Int32) (w : Int32) (n : Nat) (hn : n ≤ 8) (h3 : F 3 = nI n) : MetR l D cI cT yX0_rollersLying wsX0_rollersLying rmX0_rollersLying [.ref a0, .int w] [(a0, oT F a1 a2 a3), (a1, aI cI 8 P)] (nI (cLie F P n w)) := by
  refine Met.ofW (cc := cX0_rollersLying) (maxL := 4) (ret := (some .int)) (by decide) rfl ?_
  intro p e s m args below meth c s₁ B hml hv
  obtain ⟨hargs, hP, hK⟩ := hv
  have hx := B.exec
  have hb := B.bytes
  have hr := B.returns
  have hts := atoms_spec (ws := wsX0_rollersLying) B.pre
  have hown : s.vm.findClass RX0 = some m.cls := findClass_of_methodNamed B.named
  have hlocks := B.notSynchronized
  have hiX0 : ∀ w ∈ u_ws RX0 TX0 20, w ∈ wsX0_rollersLying := by decide +kernel
  have he : entryFrame m args 4 = F0 m 0 ((lg_sl [.ref a0, .int w] ++ List.replicate (4 - (lg_sl [.ref a0, .int w]).length) Slot.unset).toArray) [] := by rw [hargs]; exact lg_entry_eq m _ _
  rw [he]
  change W p l e rmX0_rollersLying s m args below meth c s.heap [] 0 0 (MQ below (QcRead (nI (cLie F P n w))) args s 0 0 (fun _ => False)) _
  obtain ⟨Q, hQ⟩ : ∃ Q, Q = MQ below (QcRead (nI (cLie F P n w))) args s 0 0 (fun _ => False) := ⟨_, rfl⟩
  rw [← hQ]
  have hl := lv_entry [.ref a0, .int w] (n := 4) (Nat.le_of_ble_eq_true rfl)
  generalize (lg_sl [.ref a0, .int w] ++ List.replicate (4 - (lg_sl [.ref a0, .int w]).length) Slot.unset).toArray = ls at hl ⊢
  have hl : lv_has ls 4 [(0, .ref a0), (1, .int w)] := hl
  refine lv_iconst (v := nI 0) hx hb dX0_rollersLying_0 (by decide) ?_
  refine lv_istore_n (lv' := [(2, .int (nI 0)), (0, .ref a0), (1, .int w)]) hx hb dX0_rollersLying_1 rfl hl (by decide) rfl (fun ls hl => ?_)
  refine lv_iconst (v := nI 0) hx hb dX0_rollersLying_2 (by decide) ?_
  refine lv_istore_n (lv' := [(3, .int (nI 0)), (2, .int (nI 0)), (0, .ref a0), (1, .int w)]) hx hb dX0_rollersLying_3 rfl hl (by decide) rfl (fun ls hl => ?_)
  have loop4 : ∀ (fu : Nat) (i : Nat) (r : Nat), (n - i) < fu → (i ≤ n) → (r = cnt (fun k => decide (cSide F (P k) = w)) i) → ∀ (ls : Array Slot), lv_has ls 4 [(3, .int (nI i)), (2, .int (nI r)), (0, .ref a0), (1, .int w)] → W p l e rmX0_rollersLying s m args below meth c s.heap [] 0 0 Q (F0 m 4 ls []) := by
    intro fu
    induction fu with
    | zero => intro i r hfu; exact absurd hfu (Nat.not_lt_zero _)
    | succ fu ih4 =>
      intro i r hfu4 hi er
      intro ls hl
      refine lv_iload_n hx hb dX0_rollersLying_4 rfl (lv_at hl 0 rfl) ?_
      refine lv_aload_n hx hb dX0_rollersLying_5 rfl (lv_at hl 2 rfl) ?_
      refine va_get (D := D) (ci := 0) (v := .int (nI n)) (C := RX0) (T := TX0) (N := 20) hx hb hts hiX0 hown hK.1 hP 0 rfl rfl 3 (by decide) (hts (.fieldLink RX0 19 "SledgeRace$Team" "rollers" "I") (by decide +kernel)) (fun _ h9 => h9) (congrArg (fun z => some (Value.int z)) h3) dX0_rollersLying_6 ?_
      refine sp_ge (by omega) (by omega) (tgt := 44) hx hb dX0_rollersLying_9 (by decide) (fun c9 => ?_) (fun c9 => ?_)
      · skip
        refine lv_iload_n hx hb dX0_rollersLying_44 rfl (lv_at hl 1 rfl) ?_
        refine sp_top (show nI r = nI (cLie F P n w) from by rw [er, show i = n from by omega]; rfl) ?_
        subst hQ
        exact W.iret hx hb hr (fun t ht _ => ⟨rfl, ht⟩) (fun _ h => nomatch h) dX0_rollersLying_45
      · skip
        refine lv_iload_n hx hb dX0_rollersLying_12 rfl (lv_at hl 0 rfl) ?_
        refine lv_aload_n hx hb dX0_rollersLying_13 rfl (lv_at hl 2 rfl) ?_
        refine va_get (D := D) (ci := 0) (v := .ref a1) (C := RX0) (T := TX0) (N := 20) hx hb hts hiX0 hown hK.1 hP 0 rfl rfl 17 (by decide) (hts (.fieldLink RX0 40 "SledgeRace$Team" "places" "[I") (by decide +kernel)) (fun _ h9 => h9) rfl dX0_rollersLying_14 ?_
        refine va_alen hx hb hK.1 hP 1 0 rfl rfl (v := nI 8) rfl dX0_rollersLying_17 ?_
        refine sp_ge (by omega) (by omega) (tgt := 44) hx hb dX0_rollersLying_18 (by decide) (fun c18 => absurd c18 (by omega)) (fun _ => ?_)
        refine lv_aload_n hx hb dX0_rollersLying_21 rfl (lv_at hl 2 rfl) ?_
        refine lv_aload_n hx hb dX0_rollersLying_22 rfl (lv_at hl 2 rfl) ?_
        refine va_get (D := D) (ci := 0) (v := .ref a1) (C := RX0) (T := TX0) (N := 20) hx hb hts hiX0 hown hK.1 hP 0 rfl rfl 17 (by decide) (hts (.fieldLink RX0 40 "SledgeRace$Team" "places" "[I") (by decide +kernel)) (fun _ h9 => h9) rfl dX0_rollersLying_23 ?_
        refine lv_iload_n hx hb dX0_rollersLying_26 rfl (lv_at hl 0 rfl) ?_
        refine sp_iald hx hb hK.1 hP 1 0 rfl rfl (by omega) (by omega) dX0_rollersLying_27 ?_
        refine sp_rV (rest := []) (As := [.int (P i)]) ⟨hx, hb, hml, hown, hts⟩ (mX0_sideOf l D cI cT a0 a1 a2 a3 F (P i)) (cwV 1 hts gX0_rollersLying_X0_sideOf rfl rfl rfl (by decide +kernel) ⟨Nat.le_of_ble_eq_true rfl, Nat.le_of_ble_eq_true rfl⟩) hK (sp_pick hP [0] rfl) (ci := 0) rfl rfl rfl rfl hl.1 rfl (Nat.le_of_ble_eq_true rfl) dX0_rollersLying_28 ⟨Nat.le_of_ble_eq_true rfl, Nat.le_of_ble_eq_true rfl⟩ ?_
        refine lv_iload_n hx hb dX0_rollersLying_31 rfl (lv_at hl 3 rfl) ?_
        refine lv_icmp_ne (tgt := 38) hx hb dX0_rollersLying_32 (by decide) (fun c32 => ?_) (fun c32 => ?_)
        · skip
          refine lv_iinc (v := nI (i + 1)) (lv' := [(3, .int (nI (i + 1))), (2, .int (nI r)), (0, .ref a0), (1, .int w)]) hx hb dX0_rollersLying_38 hl (k := 0) rfl ((nI_1 i)) (by decide) rfl (fun ls hl => ?_)
          refine lv_goto (tgt := 4) hx hb dX0_rollersLying_41 (by decide) ?_
          exact ih4 (i + 1) r (by omega) (by omega) (by rw [cnt, ← er]; simp [c32]) ls (lv_sub hl [0, 1, 2, 3] rfl)
        · skip
          refine lv_iinc (v := nI (r + 1)) (lv' := [(2, .int (nI (r + 1))), (3, .int (nI i)), (0, .ref a0), (1, .int w)]) hx hb dX0_rollersLying_35 hl (k := 1) rfl ((nI_1 r)) (by decide) rfl (fun ls hl => ?_)
          refine lv_iinc (v := nI (i + 1)) (lv' := [(3, .int (nI (i + 1))), (2, .int (nI (r + 1))), (0, .ref a0), (1, .int w)]) hx hb dX0_rollersLying_38 hl (k := 1) rfl ((nI_1 i)) (by decide) rfl (fun ls hl => ?_)
          refine lv_goto (tgt := 4) hx hb dX0_rollersLying_41 (by decide) ?_
          exact ih4 (i + 1) (r + 1) (by omega) (by omega) (by rw [cnt, ← er]; simp [c32]) ls (lv_sub hl [0, 1, 2, 3] rfl)
  exact loop4 _ 0 0 (Nat.lt_succ_self _) (Nat.zero_le _) (rfl) ls (lv_sub hl [0, 1, 2, 3] rfl)

abbrev rmX0_lastBehind : Room := { frames := 1, cells := 0, slots := 0, locals := 21 }
set_option maxHeartbeats 4000000 in
set_option maxRecDepth 100000 in
/-- the roller that lies farthest behind -/
theorem mX0_lastBehind (l : Launch) (D : va_G) (cI cT : ClassId) (a0 a1 a2 a3 : Nat) (F P : Nat → Int32) (n : Nat) (hn : n ≤ 8) (h3 : F 3 = nI n) : MetR l D cI cT yX0_lastBehind wsX0_lastBehind rmX0_lastBehind [.ref a0] [(a0, oT F a1 a2 a3), (a1, aI cI 8 P)] ((cLB F P n).1) := by
  refine Met.ofW (cc := cX0_lastBehind) (maxL := 4) (ret := (some .int)) (by decide) rfl ?_
  intro p e s m args below meth c s₁ B hml hv
  obtain ⟨hargs, hP, hK⟩ := hv
  have hx := B.exec
  have hb := B.bytes
  have hr := B.returns
  have hts := atoms_spec (ws := wsX0_lastBehind) B.pre
  have hown : s.vm.findClass RX0 = some m.cls := findClass_of_methodNamed B.named
  have hlocks := B.notSynchronized
  have hiX0 : ∀ w ∈ u_ws RX0 TX0 20, w ∈ wsX0_lastBehind := by decide +kernel
  have he : entryFrame m args 4 = F0 m 0 ((lg_sl [.ref a0] ++ List.replicate (4 - (lg_sl [.ref a0]).length) Slot.unset).toArray) [] := by rw [hargs]; exact lg_entry_eq m _ _
  rw [he]
  change W p l e rmX0_lastBehind s m args below meth c s.heap [] 0 0 (MQ below (QcRead ((cLB F P n).1)) args s 0 0 (fun _ => False)) _
  obtain ⟨Q, hQ⟩ : ∃ Q, Q = MQ below (QcRead ((cLB F P n).1)) args s 0 0 (fun _ => False) := ⟨_, rfl⟩
  rw [← hQ]
  have hl := lv_entry [.ref a0] (n := 4) (Nat.le_of_ble_eq_true rfl)
  generalize (lg_sl [.ref a0] ++ List.replicate (4 - (lg_sl [.ref a0]).length) Slot.unset).toArray = ls at hl ⊢
  have hl : lv_has ls 4 [(0, .ref a0)] := hl
  refine lv_iconst (v := (-1)) hx hb dX0_lastBehind_0 (by decide) ?_
  refine lv_istore_n (lv' := [(1, .int (-1)), (0, .ref a0)]) hx hb dX0_lastBehind_1 rfl hl (by decide) rfl (fun ls hl => ?_)
  refine lv_aload_n hx hb dX0_lastBehind_2 rfl (lv_at hl 1 rfl) ?_
  refine va_get (D := D) (ci := 0) (v := .int (F 10)) (C := RX0) (T := TX0) (N := 20) hx hb hts hiX0 hown hK.1 hP 0 rfl rfl 10 (by decide) (hts (.fieldLink RX0 53 "SledgeRace$Team" "front" "I") (by decide +kernel)) (fun _ h9 => h9) rfl dX0_lastBehind_3 ?_
  refine lv_aload_n hx hb dX0_lastBehind_6 rfl (lv_at hl 1 rfl) ?_
  refine va_get (D := D) (ci := 0) (v := .int (F 1)) (C := RX0) (T := TX0) (N := 20) hx hb hts hiX0 hown hK.1 hP 0 rfl rfl 1 (by decide) (hts (.fieldLink RX0 13 "SledgeRace$Team" "length" "I") (by decide +kernel)) (fun _ h9 => h9) rfl dX0_lastBehind_7 ?_
  refine lv_isub hx hb dX0_lastBehind_10 ?_
  refine lv_istore_n (lv' := [(2, .int ((F 10) - (F 1))), (1, .int (-1)), (0, .ref a0)]) hx hb dX0_lastBehind_11 rfl hl (by decide) rfl (fun ls hl => ?_)
  refine lv_iconst (v := nI 0) hx hb dX0_lastBehind_12 (by decide) ?_
  refine lv_istore_n (lv' := [(3, .int (nI 0)), (2, .int ((F 10) - (F 1))), (1, .int (-1)), (0, .ref a0)]) hx hb dX0_lastBehind_13 rfl hl (by decide) rfl (fun ls hl => ?_)
  have loop14 : ∀ (fu : Nat) (i : Nat) (a : Int32) (b : Int32), (n - i) < fu → (i ≤ n) → (cLB F P i = (a, b)) → ∀ (ls : Array Slot), lv_has ls 4 [(3, .int (nI i)), (2, .int b), (1, .int a), (0, .ref a0)] → W p l e rmX0_lastBehind s m args below meth c s.heap [] 0 0 Q (F0 m 14 ls []) := by
    intro fu
    induction fu with
    | zero => intro i a b hfu; exact absurd hfu (Nat.not_lt_zero _)
    | succ fu ih14 =>
      intro i a b hfu14 hi hab
      intro ls hl
      refine lv_iload_n hx hb dX0_lastBehind_14 rfl (lv_at hl 0 rfl) ?_
      refine lv_aload_n hx hb dX0_lastBehind_15 rfl (lv_at hl 3 rfl) ?_
      refine va_get (D := D) (ci := 0) (v := .int (nI n)) (C := RX0) (T := TX0) (N := 20) hx hb hts hiX0 hown hK.1 hP 0 rfl rfl 3 (by decide) (hts (.fieldLink RX0 19 "SledgeRace$Team" "rollers" "I") (by decide +kernel)) (fun _ h9 => h9) (congrArg (fun z => some (Value.int z)) h3) dX0_lastBehind_16 ?_
      refine sp_ge (by omega) (by omega) (tgt := 70) hx hb dX0_lastBehind_19 (by decide) (fun c19 => ?_) (fun c19 => ?_)
      · skip
        refine lv_iload_n hx hb dX0_lastBehind_70 rfl (lv_at hl 2 rfl) ?_
        refine sp_top (show a = (cLB F P n).1 from by rw [← show i = n from by omega, hab]) ?_
        subst hQ
        exact W.iret hx hb hr (fun t ht _ => ⟨rfl, ht⟩) (fun _ h => nomatch h) dX0_lastBehind_71
      · skip
        refine lv_iload_n hx hb dX0_lastBehind_22 rfl (lv_at hl 0 rfl) ?_
        refine lv_aload_n hx hb dX0_lastBehind_23 rfl (lv_at hl 3 rfl) ?_
        refine va_get (D := D) (ci := 0) (v := .ref a1) (C := RX0) (T := TX0) (N := 20) hx hb hts hiX0 hown hK.1 hP 0 rfl rfl 17 (by decide) (hts (.fieldLink RX0 40 "SledgeRace$Team" "places" "[I") (by decide +kernel)) (fun _ h9 => h9) rfl dX0_lastBehind_24 ?_
        refine va_alen hx hb hK.1 hP 1 0 rfl rfl (v := nI 8) rfl dX0_lastBehind_27 ?_
        refine sp_ge (by omega) (by omega) (tgt := 70) hx hb dX0_lastBehind_28 (by decide) (fun c28 => absurd c28 (by omega)) (fun _ => ?_)
        refine lv_aload_n hx hb dX0_lastBehind_31 rfl (lv_at hl 3 rfl) ?_
        refine lv_aload_n hx hb dX0_lastBehind_32 rfl (lv_at hl 3 rfl) ?_
        refine va_get (D := D) (ci := 0) (v := .ref a1) (C := RX0) (T := TX0) (N := 20) hx hb hts hiX0 hown hK.1 hP 0 rfl rfl 17 (by decide) (hts (.fieldLink RX0 40 "SledgeRace$Team" "places" "[I") (by decide +kernel)) (fun _ h9 => h9) rfl dX0_lastBehind_33 ?_
        refine lv_iload_n hx hb dX0_lastBehind_36 rfl (lv_at hl 0 rfl) ?_
        refine sp_iald hx hb hK.1 hP 1 0 rfl rfl (by omega) (by omega) dX0_lastBehind_37 ?_
        refine sp_rV (rest := []) (As := [.int (P i)]) ⟨hx, hb, hml, hown, hts⟩ (mX0_sideOf l D cI cT a0 a1 a2 a3 F (P i)) (cwV 1 hts gX0_lastBehind_X0_sideOf rfl rfl rfl (by decide +kernel) ⟨Nat.le_of_ble_eq_true rfl, Nat.le_of_ble_eq_true rfl⟩) hK (sp_pick hP [0] rfl) (ci := 0) rfl rfl rfl rfl hl.1 rfl (Nat.le_of_ble_eq_true rfl) dX0_lastBehind_38 ⟨Nat.le_of_ble_eq_true rfl, Nat.le_of_ble_eq_true rfl⟩ ?_
        refine lv_iconst (v := 1) hx hb dX0_lastBehind_41 (by decide) ?_
        refine lv_icmp_ne (tgt := 64) hx hb dX0_lastBehind_42 (by decide) (fun c42 => ?_) (fun c42 => ?_)
        · skip
          refine lv_iinc (v := nI (i + 1)) (lv' := [(3, .int (nI (i + 1))), (2, .int b), (1, .int a), (0, .ref a0)]) hx hb dX0_lastBehind_64 hl (k := 0) rfl ((nI_1 i)) (by decide) rfl (fun ls hl => ?_)
          refine lv_goto (tgt := 14) hx hb dX0_lastBehind_67 (by decide) ?_
          exact ih14 (i + 1) a b (by omega) (by omega) (by simp only [cLB, hab]; simp [c42]) ls (lv_sub hl [0, 1, 2, 3] rfl)
        · skip
          refine lv_aload_n hx hb dX0_lastBehind_45 rfl (lv_at hl 3 rfl) ?_
          refine va_get (D := D) (ci := 0) (v := .ref a1) (C := RX0) (T := TX0) (N := 20) hx hb hts hiX0 hown hK.1 hP 0 rfl rfl 17 (by decide) (hts (.fieldLink RX0 40 "SledgeRace$Team" "places" "[I") (by decide +kernel)) (fun _ h9 => h9) rfl dX0_lastBehind_46 ?_
          refine lv_iload_n hx hb dX0_lastBehind_49 rfl (lv_at hl 0 rfl) ?_
          refine sp_iald hx hb hK.1 hP 1 0 rfl rfl (by omega) (by omega) dX0_lastBehind_50 ?_
          refine lv_iload_n hx hb dX0_lastBehind_51 rfl (lv_at hl 1 rfl) ?_
          refine lx_icmp_ge (tgt := 64) hx hb dX0_lastBehind_52 (by decide) (fun c52 => ?_) (fun c52 => ?_)
          · skip
            refine lv_iinc (v := nI (i + 1)) (lv' := [(3, .int (nI (i + 1))), (2, .int b), (1, .int a), (0, .ref a0)]) hx hb dX0_lastBehind_64 hl (k := 0) rfl ((nI_1 i)) (by decide) rfl (fun ls hl => ?_)
            refine lv_goto (tgt := 14) hx hb dX0_lastBehind_67 (by decide) ?_
            exact ih14 (i + 1) a b (by omega) (by omega) (by simp only [cLB, hab]; simp [c42, c52]) ls (lv_sub hl [0, 1, 2, 3] rfl)
          · skip
            refine lv_iload_n hx hb dX0_lastBehind_55 rfl (lv_at hl 0 rfl) ?_
            refine lv_istore_n (lv' := [(1, .int (nI i)), (3, .int (nI i)), (2, .int b), (0, .ref a0)]) hx hb dX0_lastBehind_56 rfl hl (by decide) rfl (fun ls hl => ?_)
            refine lv_aload_n hx hb dX0_lastBehind_57 rfl (lv_at hl 3 rfl) ?_
            refine va_get (D := D) (ci := 0) (v := .ref a1) (C := RX0) (T := TX0) (N := 20) hx hb hts hiX0 hown hK.1 hP 0 rfl rfl 17 (by decide) (hts (.fieldLink RX0 40 "SledgeRace$Team" "places" "[I") (by decide +kernel)) (fun _ h9 => h9) rfl dX0_lastBehind_58 ?_
            refine lv_iload_n hx hb dX0_lastBehind_61 rfl (lv_at hl 1 rfl) ?_
            refine sp_iald hx hb hK.1 hP 1 0 rfl rfl (by omega) (by omega) dX0_lastBehind_62 ?_
            refine lv_istore_n (lv' := [(2, .int (P i)), (1, .int (nI i)), (3, .int (nI i)), (0, .ref a0)]) hx hb dX0_lastBehind_63 rfl hl (by decide) rfl (fun ls hl => ?_)
            refine lv_iinc (v := nI (i + 1)) (lv' := [(3, .int (nI (i + 1))), (2, .int (P i)), (1, .int (nI i)), (0, .ref a0)]) hx hb dX0_lastBehind_64 hl (k := 2) rfl ((nI_1 i)) (by decide) rfl (fun ls hl => ?_)
            refine lv_goto (tgt := 14) hx hb dX0_lastBehind_67 (by decide) ?_
            exact ih14 (i + 1) (nI i) (P i) (by omega) (by omega) (by simp only [cLB, hab]; simp [c42, c52]) ls (lv_sub hl [0, 1, 2, 3] rfl)
  exact loop14 _ 0 (-1) (F 10 - F 1) (Nat.lt_succ_self _) (Nat.zero_le _) (rfl) ls (lv_sub hl [0, 1, 2, 3] rfl)
