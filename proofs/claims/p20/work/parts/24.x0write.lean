abbrev rmX0_breakRope : Room := { frames := 1, cells := 0, slots := 0, locals := 14 }
set_option maxHeartbeats 4000000 in
set_option maxRecDepth 100000 in
/-- the rope breaks -/
theorem mX0_breakRope (l : Launch) (D : va_G) (cI cT : ClassId) (a0 a1 a2 a3 : Nat) (F : Nat → Int32) : MetV l D cI cT yX0_breakRope wsX0_breakRope rmX0_breakRope [.ref a0] [(a0, oT F a1 a2 a3)] [] [(a0, oT (cSnapF F) a1 a2 a3)] := by
  refine Met.ofW (cc := cX0_breakRope) (maxL := 1) (ret := none) (by decide) rfl ?_
  intro p e s m args below meth c s₁ B hml hv
  obtain ⟨hargs, hP, hR0, hK, hN⟩ := hv
  have hx := B.exec
  have hb := B.bytes
  have hr := B.returns
  have hts := atoms_spec (ws := wsX0_breakRope) B.pre
  have hown : s.vm.findClass RX0 = some m.cls := findClass_of_methodNamed B.named
  have hlocks := B.notSynchronized
  have hiX0 : ∀ w ∈ u_ws RX0 TX0 20, w ∈ wsX0_breakRope := by decide +kernel
  have he : entryFrame m args 1 = F0 m 0 ((lg_sl [.ref a0] ++ List.replicate (1 - (lg_sl [.ref a0]).length) Slot.unset).toArray) [] := by rw [hargs]; exact lg_entry_eq m _ _
  rw [he]
  change W p l e rmX0_breakRope s m args below meth c s.heap [] 0 0 (MQ below (va_Qv (S := Unit) (fun _ => True) (fun _ t => va_P D vwCl [(a0, oT (cSnapF F) a1 a2 a3)] t.heap) (fr (List.map Prod.fst [(a0, oT F a1 a2 a3)]))) args s 0 0 (fr (List.map Prod.fst [(a0, oT F a1 a2 a3)]))) _
  obtain ⟨Q, hQ⟩ : ∃ Q, Q = MQ below (va_Qv (S := Unit) (fun _ => True) (fun _ t => va_P D vwCl [(a0, oT (cSnapF F) a1 a2 a3)] t.heap) (fr (List.map Prod.fst [(a0, oT F a1 a2 a3)]))) args s 0 0 (fr (List.map Prod.fst [(a0, oT F a1 a2 a3)])) := ⟨_, rfl⟩
  rw [← hQ]
  have hl := lv_entry [.ref a0] (n := 1) (Nat.le_of_ble_eq_true rfl)
  generalize (lg_sl [.ref a0] ++ List.replicate (1 - (lg_sl [.ref a0]).length) Slot.unset).toArray = ls at hl ⊢
  have hl : lv_has ls 1 [(0, .ref a0)] := hl
  obtain ⟨A, hAe⟩ : ∃ A, A = (fr (List.map Prod.fst [(a0, oT F a1 a2 a3)])) := ⟨_, rfl⟩
  have hA0 : ∀ q ∈ List.map Prod.fst [(a0, oT F a1 a2 a3)], A q := by rw [hAe]; exact fun q h => h
  have hD : va_D A [(a0, oT F a1 a2 a3)] := sp_D (List.nodup_append.mp (show (([(a0, oT F a1 a2 a3)] : va_W).map Prod.fst ++ ([] : va_W).map Prod.fst).Nodup by rw [← List.map_append]; exact hN)).1 hA0
  have hN : (List.map Prod.fst ([(a0, oT F a1 a2 a3)] ++ []) : List Nat).Nodup := hN
  have hS : va_S A s.heap s.heap [] := va_S.rf
  obtain ⟨H, hH0⟩ : ∃ H, H = s.heap := ⟨_, rfl⟩
  obtain ⟨locs, hlo⟩ : ∃ L : List Loc, L = [] := ⟨_, rfl⟩
  have hP : va_P D vwCl [(a0, oT F a1 a2 a3)] H := by rw [hH0]; exact hP
  have hS : va_S A s.heap H locs := by rw [hH0, hlo]; exact hS
  rw [show W p l e rmX0_breakRope s m args below meth c s.heap [] 0 0 Q (F0 m 0 ls []) = W p l e rmX0_breakRope s m args below meth c H locs 0 0 Q (F0 m 0 ls []) by rw [hH0, hlo]]
  clear hH0 hlo
  refine lv_aload_n hx hb dX0_breakRope_0 rfl (lv_at hl 0 rfl) ?_
  refine lv_bipush (v := 10) hx hb dX0_breakRope_1 (by decide) ?_
  refine lv_aload_n hx hb dX0_breakRope_3 rfl (lv_at hl 0 rfl) ?_
  refine va_get (D := D) (ci := 0) (v := .int (F 12)) (C := RX0) (T := TX0) (N := 20) hx hb hts hiX0 hown hK.1 hP 0 rfl rfl 12 (by decide) (hts (.fieldLink RX0 59 "SledgeRace$Team" "rope" "I") (by decide +kernel)) (fun _ h9 => h9) rfl dX0_breakRope_4 ?_
  refine lv_aload_n hx hb dX0_breakRope_7 rfl (lv_at hl 0 rfl) ?_
  refine va_get (D := D) (ci := 0) (v := .int (F 12)) (C := RX0) (T := TX0) (N := 20) hx hb hts hiX0 hown hK.1 hP 0 rfl rfl 12 (by decide) (hts (.fieldLink RX0 59 "SledgeRace$Team" "rope" "I") (by decide +kernel)) (fun _ h9 => h9) rfl dX0_breakRope_8 ?_
  refine lv_bipush (v := 10) hx hb dX0_breakRope_11 (by decide) ?_
  refine lv_idiv hx hb dX0_breakRope_13 (by decide) ?_
  refine lv_isub hx hb dX0_breakRope_14 ?_
  refine va_mmax hx hb (hml.trans hl.1.symm) hown (hts (.methodLink RX0 110 Lib.Math.max.name) (by decide +kernel)) (hts (.static Lib.Math.max.name) (by decide +kernel)) (hts (.initialized "java/lang/Math") (by decide +kernel)) (hts (.code Lib.Math.max.name Lib.Math.max.code 2 (some .int)) (by decide +kernel)) (Nat.le_of_ble_eq_true rfl) (Nat.le_of_ble_eq_true rfl) (Nat.le_of_ble_eq_true rfl) (Nat.le_of_ble_eq_true rfl) dX0_breakRope_15 ?_
  change W _ _ _ _ _ _ _ _ _ _ _ _ _ _ _ (F0 m 18 ls (.int (imax 10 ((F 12) - ((F 12) / 10))) :: _))
  refine va_put (D := D) (ci := 0) (v := .int (imax 10 ((F 12) - ((F 12) / 10)))) (ty := .int) (C := RX0) (T := TX0) (N := 20) hx hb hts hiX0 tyX0 tyX0_ok nmX0 hown hK.1 hP hD hS 0 rfl rfl 12 (by decide) (hts (.fieldLink RX0 59 "SledgeRace$Team" "rope" "I") (by decide +kernel)) (fun _ h9 => h9) rfl (by decide +kernel) rfl rfl (Nat.le_of_ble_eq_true rfl) dX0_breakRope_18 (fun H locs hP hD hS => ?_)
  have hP : va_P D vwCl [(a0, oT (upd F 12 (imax 10 ((F 12) - ((F 12) / 10)))) a1 a2 a3)] H := hP
  have hD : va_D A [(a0, oT (upd F 12 (imax 10 ((F 12) - ((F 12) / 10)))) a1 a2 a3)] := hD
  refine lv_aload_n hx hb dX0_breakRope_21 rfl (lv_at hl 0 rfl) ?_
  refine lv_bipush (v := 15) hx hb dX0_breakRope_22 (by decide) ?_
  refine va_put (D := D) (ci := 0) (v := .int 15) (ty := .int) (C := RX0) (T := TX0) (N := 20) hx hb hts hiX0 tyX0 tyX0_ok nmX0 hown hK.1 hP hD hS 0 rfl rfl 13 (by decide) (hts (.fieldLink RX0 62 "SledgeRace$Team" "knotting" "I") (by decide +kernel)) (fun _ h9 => h9) rfl (by decide +kernel) rfl rfl (Nat.le_of_ble_eq_true rfl) dX0_breakRope_24 (fun H locs hP hD hS => ?_)
  have hP : va_P D vwCl [(a0, oT (upd (upd F 12 (imax 10 ((F 12) - ((F 12) / 10)))) 13 15) a1 a2 a3)] H := hP
  have hD : va_D A [(a0, oT (upd (upd F 12 (imax 10 ((F 12) - ((F 12) / 10)))) 13 15) a1 a2 a3)] := hD
  refine lv_aload_n hx hb dX0_breakRope_27 rfl (lv_at hl 0 rfl) ?_
  refine lv_dup hx hb dX0_breakRope_28 rfl ?_
  refine va_get (D := D) (ci := 0) (v := .int (F 14)) (C := RX0) (T := TX0) (N := 20) hx hb hts hiX0 hown hK.1 hP 0 rfl rfl 14 (by decide) (hts (.fieldLink RX0 65 "SledgeRace$Team" "breaks" "I") (by decide +kernel)) (fun _ h9 => h9) rfl dX0_breakRope_29 ?_
  refine lv_iconst (v := 1) hx hb dX0_breakRope_32 (by decide) ?_
  refine lv_iadd hx hb dX0_breakRope_33 ?_
  refine va_put (D := D) (ci := 0) (v := .int ((F 14) + 1)) (ty := .int) (C := RX0) (T := TX0) (N := 20) hx hb hts hiX0 tyX0 tyX0_ok nmX0 hown hK.1 hP hD hS 0 rfl rfl 14 (by decide) (hts (.fieldLink RX0 65 "SledgeRace$Team" "breaks" "I") (by decide +kernel)) (fun _ h9 => h9) rfl (by decide +kernel) rfl rfl (Nat.le_of_ble_eq_true rfl) dX0_breakRope_34 (fun H locs hP hD hS => ?_)
  have hP : va_P D vwCl [(a0, oT (upd (upd (upd F 12 (imax 10 ((F 12) - ((F 12) / 10)))) 13 15) 14 ((F 14) + 1)) a1 a2 a3)] H := hP
  have hD : va_D A [(a0, oT (upd (upd (upd F 12 (imax 10 ((F 12) - ((F 12) / 10)))) 13 15) 14 ((F 14) + 1)) a1 a2 a3)] := hD
  subst hQ
  have hP9 : va_P D vwCl [(a0, oT (cSnapF F) a1 a2 a3)] H := hP
  subst hAe
  exact W.vret hx hb hr (fun t ht hW => ⟨⟨(), rfl, trivial, by show va_P D vwCl _ t.heap; rw [ht]; exact hP9⟩, hS.F ht⟩) hS.2.2 dX0_breakRope_37

abbrev rmX0_breathe : Room := { frames := 1, cells := 0, slots := 0, locals := 15 }
set_option maxHeartbeats 4000000 in
set_option maxRecDepth 100000 in
/-- breath -/
theorem mX0_breathe (l : Launch) (D : va_G) (cI cT : ClassId) (a0 a1 a2 a3 : Nat) (F : Nat → Int32) (x : Int32) : MetV l D cI cT yX0_breathe wsX0_breathe rmX0_breathe [.ref a0, .int x] [(a0, oT F a1 a2 a3)] [] [(a0, oT (cT5 x F) a1 a2 a3)] := by
  refine Met.ofW (cc := cX0_breathe) (maxL := 3) (ret := none) (by decide) rfl ?_
  intro p e s m args below meth c s₁ B hml hv
  obtain ⟨hargs, hP, hR0, hK, hN⟩ := hv
  have hx := B.exec
  have hb := B.bytes
  have hr := B.returns
  have hts := atoms_spec (ws := wsX0_breathe) B.pre
  have hown : s.vm.findClass RX0 = some m.cls := findClass_of_methodNamed B.named
  have hlocks := B.notSynchronized
  have hiX0 : ∀ w ∈ u_ws RX0 TX0 20, w ∈ wsX0_breathe := by decide +kernel
  have he : entryFrame m args 3 = F0 m 0 ((lg_sl [.ref a0, .int x] ++ List.replicate (3 - (lg_sl [.ref a0, .int x]).length) Slot.unset).toArray) [] := by rw [hargs]; exact lg_entry_eq m _ _
  rw [he]
  change W p l e rmX0_breathe s m args below meth c s.heap [] 0 0 (MQ below (va_Qv (S := Unit) (fun _ => True) (fun _ t => va_P D vwCl [(a0, oT (cT5 x F) a1 a2 a3)] t.heap) (fr (List.map Prod.fst [(a0, oT F a1 a2 a3)]))) args s 0 0 (fr (List.map Prod.fst [(a0, oT F a1 a2 a3)]))) _
  obtain ⟨Q, hQ⟩ : ∃ Q, Q = MQ below (va_Qv (S := Unit) (fun _ => True) (fun _ t => va_P D vwCl [(a0, oT (cT5 x F) a1 a2 a3)] t.heap) (fr (List.map Prod.fst [(a0, oT F a1 a2 a3)]))) args s 0 0 (fr (List.map Prod.fst [(a0, oT F a1 a2 a3)])) := ⟨_, rfl⟩
  rw [← hQ]
  have hl := lv_entry [.ref a0, .int x] (n := 3) (Nat.le_of_ble_eq_true rfl)
  generalize (lg_sl [.ref a0, .int x] ++ List.replicate (3 - (lg_sl [.ref a0, .int x]).length) Slot.unset).toArray = ls at hl ⊢
  have hl : lv_has ls 3 [(0, .ref a0), (1, .int x)] := hl
  obtain ⟨A, hAe⟩ : ∃ A, A = (fr (List.map Prod.fst [(a0, oT F a1 a2 a3)])) := ⟨_, rfl⟩
  have hA0 : ∀ q ∈ List.map Prod.fst [(a0, oT F a1 a2 a3)], A q := by rw [hAe]; exact fun q h => h
  have hD : va_D A [(a0, oT F a1 a2 a3)] := sp_D (List.nodup_append.mp (show (([(a0, oT F a1 a2 a3)] : va_W).map Prod.fst ++ ([] : va_W).map Prod.fst).Nodup by rw [← List.map_append]; exact hN)).1 hA0
  have hN : (List.map Prod.fst ([(a0, oT F a1 a2 a3)] ++ []) : List Nat).Nodup := hN
  have hS : va_S A s.heap s.heap [] := va_S.rf
  obtain ⟨H, hH0⟩ : ∃ H, H = s.heap := ⟨_, rfl⟩
  obtain ⟨locs, hlo⟩ : ∃ L : List Loc, L = [] := ⟨_, rfl⟩
  have hP : va_P D vwCl [(a0, oT F a1 a2 a3)] H := by rw [hH0]; exact hP
  have hS : va_S A s.heap H locs := by rw [hH0, hlo]; exact hS
  rw [show W p l e rmX0_breathe s m args below meth c s.heap [] 0 0 Q (F0 m 0 ls []) = W p l e rmX0_breathe s m args below meth c H locs 0 0 Q (F0 m 0 ls []) by rw [hH0, hlo]]
  clear hH0 hlo
  refine lv_aload_n hx hb dX0_breathe_0 rfl (lv_at hl 0 rfl) ?_
  refine va_get (D := D) (ci := 0) (v := .int (F 11)) (C := RX0) (T := TX0) (N := 20) hx hb hts hiX0 hown hK.1 hP 0 rfl rfl 11 (by decide) (hts (.fieldLink RX0 56 "SledgeRace$Team" "breath" "I") (by decide +kernel)) (fun _ h9 => h9) rfl dX0_breathe_1 ?_
  refine lv_iload_n hx hb dX0_breathe_4 rfl (lv_at hl 1 rfl) ?_
  refine lv_iload_n hx hb dX0_breathe_5 rfl (lv_at hl 1 rfl) ?_
  refine lv_imul hx hb dX0_breathe_6 ?_
  refine lv_iconst (v := 2) hx hb dX0_breathe_7 (by decide) ?_
  refine lv_idiv hx hb dX0_breathe_8 (by decide) ?_
  refine lv_isub hx hb dX0_breathe_9 ?_
  refine lv_bipush (v := 18) hx hb dX0_breathe_10 (by decide) ?_
  refine lv_iadd hx hb dX0_breathe_12 ?_
  refine lv_istore_n (lv' := [(2, .int (((F 11) - ((x * x) / 2)) + 18)), (0, .ref a0), (1, .int x)]) hx hb dX0_breathe_13 rfl hl (by decide) rfl (fun ls hl => ?_)
  refine lv_aload_n hx hb dX0_breathe_14 rfl (lv_at hl 1 rfl) ?_
  refine lv_sipush (v := 1000) hx hb dX0_breathe_15 (by decide) ?_
  refine lv_iconst (v := 0) hx hb dX0_breathe_18 (by decide) ?_
  refine lv_iload_n hx hb dX0_breathe_19 rfl (lv_at hl 0 rfl) ?_
  refine va_mmax hx hb (hml.trans hl.1.symm) hown (hts (.methodLink RX0 110 Lib.Math.max.name) (by decide +kernel)) (hts (.static Lib.Math.max.name) (by decide +kernel)) (hts (.initialized "java/lang/Math") (by decide +kernel)) (hts (.code Lib.Math.max.name Lib.Math.max.code 2 (some .int)) (by decide +kernel)) (Nat.le_of_ble_eq_true rfl) (Nat.le_of_ble_eq_true rfl) (Nat.le_of_ble_eq_true rfl) (Nat.le_of_ble_eq_true rfl) dX0_breathe_20 ?_
  change W _ _ _ _ _ _ _ _ _ _ _ _ _ _ _ (F0 m 23 ls (.int (imax 0 (((F 11) - ((x * x) / 2)) + 18)) :: _))
  refine va_mmin hx hb (hml.trans hl.1.symm) hown (hts (.methodLink RX0 123 Lib.Math.min.name) (by decide +kernel)) (hts (.static Lib.Math.min.name) (by decide +kernel)) (hts (.initialized "java/lang/Math") (by decide +kernel)) (hts (.code Lib.Math.min.name Lib.Math.min.code 2 (some .int)) (by decide +kernel)) (Nat.le_of_ble_eq_true rfl) (Nat.le_of_ble_eq_true rfl) (Nat.le_of_ble_eq_true rfl) (Nat.le_of_ble_eq_true rfl) dX0_breathe_23 ?_
  change W _ _ _ _ _ _ _ _ _ _ _ _ _ _ _ (F0 m 26 ls (.int (imin 1000 (imax 0 (((F 11) - ((x * x) / 2)) + 18))) :: _))
  refine va_put (D := D) (ci := 0) (v := .int (imin 1000 (imax 0 (((F 11) - ((x * x) / 2)) + 18)))) (ty := .int) (C := RX0) (T := TX0) (N := 20) hx hb hts hiX0 tyX0 tyX0_ok nmX0 hown hK.1 hP hD hS 0 rfl rfl 11 (by decide) (hts (.fieldLink RX0 56 "SledgeRace$Team" "breath" "I") (by decide +kernel)) (fun _ h9 => h9) rfl (by decide +kernel) rfl rfl (Nat.le_of_ble_eq_true rfl) dX0_breathe_26 (fun H locs hP hD hS => ?_)
  have hP : va_P D vwCl [(a0, oT (upd F 11 (imin 1000 (imax 0 (((F 11) - ((x * x) / 2)) + 18)))) a1 a2 a3)] H := hP
  have hD : va_D A [(a0, oT (upd F 11 (imin 1000 (imax 0 (((F 11) - ((x * x) / 2)) + 18)))) a1 a2 a3)] := hD
  subst hQ
  have hP9 : va_P D vwCl [(a0, oT (cT5 x F) a1 a2 a3)] H := hP
  subst hAe
  exact W.vret hx hb hr (fun t ht hW => ⟨⟨(), rfl, trivial, by show va_P D vwCl _ t.heap; rw [ht]; exact hP9⟩, hS.F ht⟩) hS.2.2 dX0_breathe_29

abbrev rmX0_moveOn : Room := { frames := 1, cells := 0, slots := 0, locals := 21 }
set_option maxHeartbeats 4000000 in
set_option maxRecDepth 100000 in
/-- the sledge and what lies under it move on -/
theorem mX0_moveOn (l : Launch) (D : va_G) (cI cT : ClassId) (a0 a1 a2 a3 : Nat) (F P : Nat → Int32) (n : Nat) (hn : n ≤ 8) (h3 : F 3 = nI n) : MetV l D cI cT yX0_moveOn wsX0_moveOn rmX0_moveOn [.ref a0] [(a0, oT F a1 a2 a3), (a1, aI cI 8 P)] [] [(a0, oT (cT4 F) a1 a2 a3), (a1, aI cI 8 (cMoveP F P n))] := by
  refine Met.ofW (cc := cX0_moveOn) (maxL := 2) (ret := none) (by decide) rfl ?_
  intro p e s m args below meth c s₁ B hml hv
  obtain ⟨hargs, hP, hR0, hK, hN⟩ := hv
  have hx := B.exec
  have hb := B.bytes
  have hr := B.returns
  have hts := atoms_spec (ws := wsX0_moveOn) B.pre
  have hown : s.vm.findClass RX0 = some m.cls := findClass_of_methodNamed B.named
  have hlocks := B.notSynchronized
  have hiX0 : ∀ w ∈ u_ws RX0 TX0 20, w ∈ wsX0_moveOn := by decide +kernel
  have he : entryFrame m args 2 = F0 m 0 ((lg_sl [.ref a0] ++ List.replicate (2 - (lg_sl [.ref a0]).length) Slot.unset).toArray) [] := by rw [hargs]; exact lg_entry_eq m _ _
  rw [he]
  change W p l e rmX0_moveOn s m args below meth c s.heap [] 0 0 (MQ below (va_Qv (S := Unit) (fun _ => True) (fun _ t => va_P D vwCl [(a0, oT (cT4 F) a1 a2 a3), (a1, aI cI 8 (cMoveP F P n))] t.heap) (fr (List.map Prod.fst [(a0, oT F a1 a2 a3), (a1, aI cI 8 P)]))) args s 0 0 (fr (List.map Prod.fst [(a0, oT F a1 a2 a3), (a1, aI cI 8 P)]))) _
  obtain ⟨Q, hQ⟩ : ∃ Q, Q = MQ below (va_Qv (S := Unit) (fun _ => True) (fun _ t => va_P D vwCl [(a0, oT (cT4 F) a1 a2 a3), (a1, aI cI 8 (cMoveP F P n))] t.heap) (fr (List.map Prod.fst [(a0, oT F a1 a2 a3), (a1, aI cI 8 P)]))) args s 0 0 (fr (List.map Prod.fst [(a0, oT F a1 a2 a3), (a1, aI cI 8 P)])) := ⟨_, rfl⟩
  rw [← hQ]
  have hl := lv_entry [.ref a0] (n := 2) (Nat.le_of_ble_eq_true rfl)
  generalize (lg_sl [.ref a0] ++ List.replicate (2 - (lg_sl [.ref a0]).length) Slot.unset).toArray = ls at hl ⊢
  have hl : lv_has ls 2 [(0, .ref a0)] := hl
  obtain ⟨A, hAe⟩ : ∃ A, A = (fr (List.map Prod.fst [(a0, oT F a1 a2 a3), (a1, aI cI 8 P)])) := ⟨_, rfl⟩
  have hA0 : ∀ q ∈ List.map Prod.fst [(a0, oT F a1 a2 a3), (a1, aI cI 8 P)], A q := by rw [hAe]; exact fun q h => h
  have hD : va_D A [(a0, oT F a1 a2 a3), (a1, aI cI 8 P)] := sp_D (List.nodup_append.mp (show (([(a0, oT F a1 a2 a3), (a1, aI cI 8 P)] : va_W).map Prod.fst ++ ([] : va_W).map Prod.fst).Nodup by rw [← List.map_append]; exact hN)).1 hA0
  have hN : (List.map Prod.fst ([(a0, oT F a1 a2 a3), (a1, aI cI 8 P)] ++ []) : List Nat).Nodup := hN
  have hS : va_S A s.heap s.heap [] := va_S.rf
  obtain ⟨H, hH0⟩ : ∃ H, H = s.heap := ⟨_, rfl⟩
  obtain ⟨locs, hlo⟩ : ∃ L : List Loc, L = [] := ⟨_, rfl⟩
  have hP : va_P D vwCl [(a0, oT F a1 a2 a3), (a1, aI cI 8 P)] H := by rw [hH0]; exact hP
  have hS : va_S A s.heap H locs := by rw [hH0, hlo]; exact hS
  rw [show W p l e rmX0_moveOn s m args below meth c s.heap [] 0 0 Q (F0 m 0 ls []) = W p l e rmX0_moveOn s m args below meth c H locs 0 0 Q (F0 m 0 ls []) by rw [hH0, hlo]]
  clear hH0 hlo
  refine lv_iconst (v := nI 0) hx hb dX0_moveOn_0 (by decide) ?_
  refine lv_istore_n (lv' := [(1, .int (nI 0)), (0, .ref a0)]) hx hb dX0_moveOn_1 rfl hl (by decide) rfl (fun ls hl => ?_)
  have loop2 : ∀ (fu : Nat) (i : Nat), (n - i) < fu → (i ≤ n) → ∀ (H : Heap) (locs : List Loc), va_P D vwCl [(a0, oT F a1 a2 a3), (a1, aI cI 8 (cMoveP F P i))] H → va_D A [(a0, oT F a1 a2 a3), (a1, aI cI 8 (cMoveP F P i))] → va_S A s.heap H locs → ∀ (ls : Array Slot), lv_has ls 2 [(1, .int (nI i)), (0, .ref a0)] → W p l e rmX0_moveOn s m args below meth c H locs 0 0 Q (F0 m 2 ls []) := by
    intro fu
    induction fu with
    | zero => intro i hfu; exact absurd hfu (Nat.not_lt_zero _)
    | succ fu ih2 =>
      intro i hfu2 hi
      intro H locs hP hD hS ls hl
      refine lv_iload_n hx hb dX0_moveOn_2 rfl (lv_at hl 0 rfl) ?_
      refine lv_aload_n hx hb dX0_moveOn_3 rfl (lv_at hl 1 rfl) ?_
      refine va_get (D := D) (ci := 0) (v := .int (nI n)) (C := RX0) (T := TX0) (N := 20) hx hb hts hiX0 hown hK.1 hP 0 rfl rfl 3 (by decide) (hts (.fieldLink RX0 19 "SledgeRace$Team" "rollers" "I") (by decide +kernel)) (fun _ h9 => h9) (congrArg (fun z => some (Value.int z)) h3) dX0_moveOn_4 ?_
      refine sp_ge (by omega) (by omega) (tgt := 53) hx hb dX0_moveOn_7 (by decide) (fun c7 => ?_) (fun c7 => ?_)
      · skip
        refine lv_aload_n hx hb dX0_moveOn_53 rfl (lv_at hl 1 rfl) ?_
        refine lv_dup hx hb dX0_moveOn_54 rfl ?_
        refine va_get (D := D) (ci := 0) (v := .int (F 10)) (C := RX0) (T := TX0) (N := 20) hx hb hts hiX0 hown hK.1 hP 0 rfl rfl 10 (by decide) (hts (.fieldLink RX0 53 "SledgeRace$Team" "front" "I") (by decide +kernel)) (fun _ h9 => h9) rfl dX0_moveOn_55 ?_
        refine lv_aload_n hx hb dX0_moveOn_58 rfl (lv_at hl 1 rfl) ?_
        refine va_get (D := D) (ci := 0) (v := .int (F 15)) (C := RX0) (T := TX0) (N := 20) hx hb hts hiX0 hown hK.1 hP 0 rfl rfl 15 (by decide) (hts (.fieldLink RX0 68 "SledgeRace$Team" "way" "I") (by decide +kernel)) (fun _ h9 => h9) rfl dX0_moveOn_59 ?_
        refine lv_iadd hx hb dX0_moveOn_62 ?_
        refine va_put (D := D) (ci := 0) (v := .int ((F 10) + (F 15))) (ty := .int) (C := RX0) (T := TX0) (N := 20) hx hb hts hiX0 tyX0 tyX0_ok nmX0 hown hK.1 hP hD hS 0 rfl rfl 10 (by decide) (hts (.fieldLink RX0 53 "SledgeRace$Team" "front" "I") (by decide +kernel)) (fun _ h9 => h9) rfl (by decide +kernel) rfl rfl (Nat.le_of_ble_eq_true rfl) dX0_moveOn_63 (fun H locs hP hD hS => ?_)
        have hP : va_P D vwCl [(a0, oT (upd F 10 ((F 10) + (F 15))) a1 a2 a3), (a1, aI cI 8 (cMoveP F P i))] H := hP
        have hD : va_D A [(a0, oT (upd F 10 ((F 10) + (F 15))) a1 a2 a3), (a1, aI cI 8 (cMoveP F P i))] := hD
        subst hQ
        have hP9 : va_P D vwCl [(a0, oT (cT4 F) a1 a2 a3), (a1, aI cI 8 (cMoveP F P n))] H := by rw [← show i = n from by omega]; exact hP
        subst hAe
        exact W.vret hx hb hr (fun t ht hW => ⟨⟨(), rfl, trivial, by show va_P D vwCl _ t.heap; rw [ht]; exact hP9⟩, hS.F ht⟩) hS.2.2 dX0_moveOn_66
      · skip
        refine lv_iload_n hx hb dX0_moveOn_10 rfl (lv_at hl 0 rfl) ?_
        refine lv_aload_n hx hb dX0_moveOn_11 rfl (lv_at hl 1 rfl) ?_
        refine va_get (D := D) (ci := 0) (v := .ref a1) (C := RX0) (T := TX0) (N := 20) hx hb hts hiX0 hown hK.1 hP 0 rfl rfl 17 (by decide) (hts (.fieldLink RX0 40 "SledgeRace$Team" "places" "[I") (by decide +kernel)) (fun _ h9 => h9) rfl dX0_moveOn_12 ?_
        refine va_alen hx hb hK.1 hP 1 0 rfl rfl (v := nI 8) rfl dX0_moveOn_15 ?_
        refine sp_ge (by omega) (by omega) (tgt := 53) hx hb dX0_moveOn_16 (by decide) (fun c16 => absurd c16 (by omega)) (fun _ => ?_)
        refine lv_aload_n hx hb dX0_moveOn_19 rfl (lv_at hl 1 rfl) ?_
        refine lv_aload_n hx hb dX0_moveOn_20 rfl (lv_at hl 1 rfl) ?_
        refine va_get (D := D) (ci := 0) (v := .ref a1) (C := RX0) (T := TX0) (N := 20) hx hb hts hiX0 hown hK.1 hP 0 rfl rfl 17 (by decide) (hts (.fieldLink RX0 40 "SledgeRace$Team" "places" "[I") (by decide +kernel)) (fun _ h9 => h9) rfl dX0_moveOn_21 ?_
        refine lv_iload_n hx hb dX0_moveOn_24 rfl (lv_at hl 0 rfl) ?_
        refine sp_iald hx hb hK.1 hP 1 0 rfl rfl (by omega) (by omega) dX0_moveOn_25 ?_
        refine sp_top (cMoveP_i F P i) ?_
        refine sp_rV (rest := []) (As := [.int (P i)]) ⟨hx, hb, hml, hown, hts⟩ (mX0_sideOf l D cI cT a0 a1 a2 a3 F (P i)) (cwV 1 hts gX0_moveOn_X0_sideOf rfl rfl rfl (by decide +kernel) ⟨Nat.le_of_ble_eq_true rfl, Nat.le_of_ble_eq_true rfl⟩) hK (sp_pick hP [0] rfl) (ci := 0) rfl rfl rfl rfl hl.1 rfl (Nat.le_of_ble_eq_true rfl) dX0_moveOn_26 ⟨Nat.le_of_ble_eq_true rfl, Nat.le_of_ble_eq_true rfl⟩ ?_
        refine lv_if_ne (tgt := 47) hx hb dX0_moveOn_29 (by decide) (fun c29 => ?_) (fun c29 => ?_)
        · skip
          rw [cMoveP_no c29] at hP hD
          refine lv_iinc (v := nI (i + 1)) (lv' := [(1, .int (nI (i + 1))), (0, .ref a0)]) hx hb dX0_moveOn_47 hl (k := 0) rfl ((nI_1 i)) (by decide) rfl (fun ls hl => ?_)
          refine lv_goto (tgt := 2) hx hb dX0_moveOn_50 (by decide) ?_
          exact ih2 (i + 1) (by omega) (by omega) _ _ hP hD hS ls (lv_sub hl [0, 1] rfl)
        · skip
          refine lv_aload_n hx hb dX0_moveOn_32 rfl (lv_at hl 1 rfl) ?_
          refine va_get (D := D) (ci := 0) (v := .ref a1) (C := RX0) (T := TX0) (N := 20) hx hb hts hiX0 hown hK.1 hP 0 rfl rfl 17 (by decide) (hts (.fieldLink RX0 40 "SledgeRace$Team" "places" "[I") (by decide +kernel)) (fun _ h9 => h9) rfl dX0_moveOn_33 ?_
          refine lv_iload_n hx hb dX0_moveOn_36 rfl (lv_at hl 0 rfl) ?_
          refine lv_dup2_11 hx hb dX0_moveOn_37 rfl rfl ?_
          refine sp_iald hx hb hK.1 hP 1 0 rfl rfl (by omega) (by omega) dX0_moveOn_38 ?_
          refine sp_top (cMoveP_i F P i) ?_
          refine lv_aload_n hx hb dX0_moveOn_39 rfl (lv_at hl 1 rfl) ?_
          refine va_get (D := D) (ci := 0) (v := .int (F 15)) (C := RX0) (T := TX0) (N := 20) hx hb hts hiX0 hown hK.1 hP 0 rfl rfl 15 (by decide) (hts (.fieldLink RX0 68 "SledgeRace$Team" "way" "I") (by decide +kernel)) (fun _ h9 => h9) rfl dX0_moveOn_40 ?_
          refine lv_iconst (v := 2) hx hb dX0_moveOn_43 (by decide) ?_
          refine lv_idiv hx hb dX0_moveOn_44 (by decide) ?_
          refine lv_iadd hx hb dX0_moveOn_45 ?_
          refine sp_iast hx hb hK.1 hP hD hS 1 0 rfl rfl (by omega) (by omega) dX0_moveOn_46 (fun H locs hP hD hS => ?_)
          have hP : va_P D vwCl [(a0, oT F a1 a2 a3), (a1, aI cI 8 (upd (cMoveP F P i) i ((P i) + ((F 15) / 2))))] H := hP
          have hD : va_D A [(a0, oT F a1 a2 a3), (a1, aI cI 8 (upd (cMoveP F P i) i ((P i) + ((F 15) / 2))))] := hD
          rw [upd_cMoveP c29] at hP hD
          refine lv_iinc (v := nI (i + 1)) (lv' := [(1, .int (nI (i + 1))), (0, .ref a0)]) hx hb dX0_moveOn_47 hl (k := 0) rfl ((nI_1 i)) (by decide) rfl (fun ls hl => ?_)
          refine lv_goto (tgt := 2) hx hb dX0_moveOn_50 (by decide) ?_
          exact ih2 (i + 1) (by omega) (by omega) _ _ hP hD hS ls (lv_sub hl [0, 1] rfl)
  exact loop2 _ 0 (Nat.lt_succ_self _) (Nat.zero_le _) _ _ (by rw [cMoveP_0]; exact hP) (by rw [cMoveP_0]; exact hD) hS ls (lv_sub hl [0, 1] rfl)

abbrev rmX0_sendRunners : Room := { frames := 2, cells := 0, slots := 0, locals := 44 }
set_option maxHeartbeats 4000000 in
set_option maxRecDepth 100000 in
/-- the runners go -/
theorem mX0_sendRunners (l : Launch) (D : va_G) (cI cT : ClassId) (a0 a1 a2 a3 : Nat) (F P L G : Nat → Int32) (n : Nat) (hn : n ≤ 8) (h3 : F 3 = nI n) (nh : Nat) (hnh : nh ≤ 3) (h6 : F 6 = nI nh) : MetV l D cI cT yX0_sendRunners wsX0_sendRunners rmX0_sendRunners [.ref a0] [(a0, oT F a1 a2 a3), (a1, aI cI 8 P), (a2, aI cI 3 L), (a3, aI cI 3 G)] [] [(a0, oT F a1 a2 a3), (a1, aI cI 8 (cSend F n (P, L, G) nh).1), (a2, aI cI 3 (cSend F n (P, L, G) nh).2.1), (a3, aI cI 3 (cSend F n (P, L, G) nh).2.2)] := by
  refine Met.ofW (cc := cX0_sendRunners) (maxL := 4) (ret := none) (by decide) rfl ?_
  intro p e s m args below meth c s₁ B hml hv
  obtain ⟨hargs, hP, hR0, hK, hN⟩ := hv
  have hx := B.exec
  have hb := B.bytes
  have hr := B.returns
  have hts := atoms_spec (ws := wsX0_sendRunners) B.pre
  have hown : s.vm.findClass RX0 = some m.cls := findClass_of_methodNamed B.named
  have hlocks := B.notSynchronized
  have hiX0 : ∀ w ∈ u_ws RX0 TX0 20, w ∈ wsX0_sendRunners := by decide +kernel
  have he : entryFrame m args 4 = F0 m 0 ((lg_sl [.ref a0] ++ List.replicate (4 - (lg_sl [.ref a0]).length) Slot.unset).toArray) [] := by rw [hargs]; exact lg_entry_eq m _ _
  rw [he]
  change W p l e rmX0_sendRunners s m args below meth c s.heap [] 0 0 (MQ below (va_Qv (S := Unit) (fun _ => True) (fun _ t => va_P D vwCl [(a0, oT F a1 a2 a3), (a1, aI cI 8 (cSend F n (P, L, G) nh).1), (a2, aI cI 3 (cSend F n (P, L, G) nh).2.1), (a3, aI cI 3 (cSend F n (P, L, G) nh).2.2)] t.heap) (fr (List.map Prod.fst [(a0, oT F a1 a2 a3), (a1, aI cI 8 P), (a2, aI cI 3 L), (a3, aI cI 3 G)]))) args s 0 0 (fr (List.map Prod.fst [(a0, oT F a1 a2 a3), (a1, aI cI 8 P), (a2, aI cI 3 L), (a3, aI cI 3 G)]))) _
  obtain ⟨Q, hQ⟩ : ∃ Q, Q = MQ below (va_Qv (S := Unit) (fun _ => True) (fun _ t => va_P D vwCl [(a0, oT F a1 a2 a3), (a1, aI cI 8 (cSend F n (P, L, G) nh).1), (a2, aI cI 3 (cSend F n (P, L, G) nh).2.1), (a3, aI cI 3 (cSend F n (P, L, G) nh).2.2)] t.heap) (fr (List.map Prod.fst [(a0, oT F a1 a2 a3), (a1, aI cI 8 P), (a2, aI cI 3 L), (a3, aI cI 3 G)]))) args s 0 0 (fr (List.map Prod.fst [(a0, oT F a1 a2 a3), (a1, aI cI 8 P), (a2, aI cI 3 L), (a3, aI cI 3 G)])) := ⟨_, rfl⟩
  rw [← hQ]
  have hl := lv_entry [.ref a0] (n := 4) (Nat.le_of_ble_eq_true rfl)
  generalize (lg_sl [.ref a0] ++ List.replicate (4 - (lg_sl [.ref a0]).length) Slot.unset).toArray = ls at hl ⊢
  have hl : lv_has ls 4 [(0, .ref a0)] := hl
  obtain ⟨A, hAe⟩ : ∃ A, A = (fr (List.map Prod.fst [(a0, oT F a1 a2 a3), (a1, aI cI 8 P), (a2, aI cI 3 L), (a3, aI cI 3 G)])) := ⟨_, rfl⟩
  have hA0 : ∀ q ∈ List.map Prod.fst [(a0, oT F a1 a2 a3), (a1, aI cI 8 P), (a2, aI cI 3 L), (a3, aI cI 3 G)], A q := by rw [hAe]; exact fun q h => h
  have hD : va_D A [(a0, oT F a1 a2 a3), (a1, aI cI 8 P), (a2, aI cI 3 L), (a3, aI cI 3 G)] := sp_D (List.nodup_append.mp (show (([(a0, oT F a1 a2 a3), (a1, aI cI 8 P), (a2, aI cI 3 L), (a3, aI cI 3 G)] : va_W).map Prod.fst ++ ([] : va_W).map Prod.fst).Nodup by rw [← List.map_append]; exact hN)).1 hA0
  have hN : (List.map Prod.fst ([(a0, oT F a1 a2 a3), (a1, aI cI 8 P), (a2, aI cI 3 L), (a3, aI cI 3 G)] ++ []) : List Nat).Nodup := hN
  have hS : va_S A s.heap s.heap [] := va_S.rf
  obtain ⟨H, hH0⟩ : ∃ H, H = s.heap := ⟨_, rfl⟩
  obtain ⟨locs, hlo⟩ : ∃ L : List Loc, L = [] := ⟨_, rfl⟩
  have hP : va_P D vwCl [(a0, oT F a1 a2 a3), (a1, aI cI 8 P), (a2, aI cI 3 L), (a3, aI cI 3 G)] H := by rw [hH0]; exact hP
  have hS : va_S A s.heap H locs := by rw [hH0, hlo]; exact hS
  rw [show W p l e rmX0_sendRunners s m args below meth c s.heap [] 0 0 Q (F0 m 0 ls []) = W p l e rmX0_sendRunners s m args below meth c H locs 0 0 Q (F0 m 0 ls []) by rw [hH0, hlo]]
  clear hH0 hlo
  refine lv_iconst (v := nI 0) hx hb dX0_sendRunners_0 (by decide) ?_
  refine lv_istore_n (lv' := [(1, .int (nI 0)), (0, .ref a0)]) hx hb dX0_sendRunners_1 rfl hl (by decide) rfl (fun ls hl => ?_)
  have loop2 : ∀ (fu : Nat) (r : Nat) (X : (Nat → Int32) × (Nat → Int32) × (Nat → Int32)), (nh - r) < fu → (r ≤ nh) → (cSend F n (P, L, G) r = X) → ∀ (H : Heap) (locs : List Loc), va_P D vwCl [(a0, oT F a1 a2 a3), (a1, aI cI 8 X.1), (a2, aI cI 3 X.2.1), (a3, aI cI 3 X.2.2)] H → va_D A [(a0, oT F a1 a2 a3), (a1, aI cI 8 X.1), (a2, aI cI 3 X.2.1), (a3, aI cI 3 X.2.2)] → va_S A s.heap H locs → ∀ (ls : Array Slot), lv_has ls 4 [(1, .int (nI r)), (0, .ref a0)] → W p l e rmX0_sendRunners s m args below meth c H locs 0 0 Q (F0 m 2 ls []) := by
    intro fu
    induction fu with
    | zero => intro r X hfu; exact absurd hfu (Nat.not_lt_zero _)
    | succ fu ih2 =>
      intro r X hfu2 hr9 eX
      intro H locs hP hD hS ls hl
      refine lv_iload_n hx hb dX0_sendRunners_2 rfl (lv_at hl 0 rfl) ?_
      refine lv_aload_n hx hb dX0_sendRunners_3 rfl (lv_at hl 1 rfl) ?_
      refine va_get (D := D) (ci := 0) (v := .int (nI nh)) (C := RX0) (T := TX0) (N := 20) hx hb hts hiX0 hown hK.1 hP 0 rfl rfl 6 (by decide) (hts (.fieldLink RX0 28 "SledgeRace$Team" "runners" "I") (by decide +kernel)) (fun _ h9 => h9) (congrArg (fun z => some (Value.int z)) h6) dX0_sendRunners_4 ?_
      refine sp_ge (by omega) (by omega) (tgt := 164) hx hb dX0_sendRunners_7 (by decide) (fun c7 => ?_) (fun c7 => ?_)
      · skip
        subst hQ
        have hP9 : va_P D vwCl [(a0, oT F a1 a2 a3), (a1, aI cI 8 (cSend F n (P, L, G) nh).1), (a2, aI cI 3 (cSend F n (P, L, G) nh).2.1), (a3, aI cI 3 (cSend F n (P, L, G) nh).2.2)] H := by rw [← show r = nh from by omega, eX]; exact hP
        subst hAe
        exact W.vret hx hb hr (fun t ht hW => ⟨⟨(), rfl, trivial, by show va_P D vwCl _ t.heap; rw [ht]; exact hP9⟩, hS.F ht⟩) hS.2.2 dX0_sendRunners_164
      · skip
        refine lv_iload_n hx hb dX0_sendRunners_10 rfl (lv_at hl 0 rfl) ?_
        refine lv_aload_n hx hb dX0_sendRunners_11 rfl (lv_at hl 1 rfl) ?_
        refine va_get (D := D) (ci := 0) (v := .ref a2) (C := RX0) (T := TX0) (N := 20) hx hb hts hiX0 hown hK.1 hP 0 rfl rfl 18 (by decide) (hts (.fieldLink RX0 44 "SledgeRace$Team" "loads" "[I") (by decide +kernel)) (fun _ h9 => h9) rfl dX0_sendRunners_12 ?_
        refine va_alen hx hb hK.1 hP 2 0 rfl rfl (v := nI 3) rfl dX0_sendRunners_15 ?_
        refine sp_ge (by omega) (by omega) (tgt := 164) hx hb dX0_sendRunners_16 (by decide) (fun c16 => absurd c16 (by omega)) (fun _ => ?_)
        refine lv_iload_n hx hb dX0_sendRunners_19 rfl (lv_at hl 0 rfl) ?_
        refine lv_aload_n hx hb dX0_sendRunners_20 rfl (lv_at hl 1 rfl) ?_
        refine va_get (D := D) (ci := 0) (v := .ref a3) (C := RX0) (T := TX0) (N := 20) hx hb hts hiX0 hown hK.1 hP 0 rfl rfl 19 (by decide) (hts (.fieldLink RX0 47 "SledgeRace$Team" "ticksToGo" "[I") (by decide +kernel)) (fun _ h9 => h9) rfl dX0_sendRunners_21 ?_
        refine va_alen hx hb hK.1 hP 3 0 rfl rfl (v := nI 3) rfl dX0_sendRunners_24 ?_
        refine sp_ge (by omega) (by omega) (tgt := 164) hx hb dX0_sendRunners_25 (by decide) (fun c25 => absurd c25 (by omega)) (fun _ => ?_)
        refine lv_aload_n hx hb dX0_sendRunners_28 rfl (lv_at hl 1 rfl) ?_
        refine va_get (D := D) (ci := 0) (v := .ref a2) (C := RX0) (T := TX0) (N := 20) hx hb hts hiX0 hown hK.1 hP 0 rfl rfl 18 (by decide) (hts (.fieldLink RX0 44 "SledgeRace$Team" "loads" "[I") (by decide +kernel)) (fun _ h9 => h9) rfl dX0_sendRunners_29 ?_
        refine lv_iload_n hx hb dX0_sendRunners_32 rfl (lv_at hl 0 rfl) ?_
        refine sp_iald hx hb hK.1 hP 2 0 rfl rfl (by omega) (by omega) dX0_sendRunners_33 ?_
        refine lv_topi (fun ld eld => ?_)
        refine lv_istore_n (lv' := [(2, .int ld), (1, .int (nI r)), (0, .ref a0)]) hx hb dX0_sendRunners_34 rfl hl (by decide) rfl (fun ls hl => ?_)
        refine lv_iload_n hx hb dX0_sendRunners_35 rfl (lv_at hl 0 rfl) ?_
        refine lv_iconst (v := (-1)) hx hb dX0_sendRunners_36 (by decide) ?_
        refine lv_icmp_ne (tgt := 104) hx hb dX0_sendRunners_37 (by decide) (fun c37 => ?_) (fun c37 => ?_)
        · skip
          refine lv_aload_n hx hb dX0_sendRunners_104 rfl (lv_at hl 2 rfl) ?_
          refine va_get (D := D) (ci := 0) (v := .ref a3) (C := RX0) (T := TX0) (N := 20) hx hb hts hiX0 hown hK.1 hP 0 rfl rfl 19 (by decide) (hts (.fieldLink RX0 47 "SledgeRace$Team" "ticksToGo" "[I") (by decide +kernel)) (fun _ h9 => h9) rfl dX0_sendRunners_105 ?_
          refine lv_iload_n hx hb dX0_sendRunners_108 rfl (lv_at hl 1 rfl) ?_
          refine lv_dup2_11 hx hb dX0_sendRunners_109 rfl rfl ?_
          refine sp_iald hx hb hK.1 hP 3 0 rfl rfl (by omega) (by omega) dX0_sendRunners_110 ?_
          refine lv_iconst (v := 1) hx hb dX0_sendRunners_111 (by decide) ?_
          refine lv_isub hx hb dX0_sendRunners_112 ?_
          refine sp_iast hx hb hK.1 hP hD hS 3 0 rfl rfl (by omega) (by omega) dX0_sendRunners_113 (fun H locs hP hD hS => ?_)
          have hP : va_P D vwCl [(a0, oT F a1 a2 a3), (a1, aI cI 8 X.1), (a2, aI cI 3 X.2.1), (a3, aI cI 3 (upd X.2.2 r ((X.2.2 r) - 1)))] H := hP
          have hD : va_D A [(a0, oT F a1 a2 a3), (a1, aI cI 8 X.1), (a2, aI cI 3 X.2.1), (a3, aI cI 3 (upd X.2.2 r ((X.2.2 r) - 1)))] := hD
          refine lv_aload_n hx hb dX0_sendRunners_114 rfl (lv_at hl 2 rfl) ?_
          refine va_get (D := D) (ci := 0) (v := .ref a3) (C := RX0) (T := TX0) (N := 20) hx hb hts hiX0 hown hK.1 hP 0 rfl rfl 19 (by decide) (hts (.fieldLink RX0 47 "SledgeRace$Team" "ticksToGo" "[I") (by decide +kernel)) (fun _ h9 => h9) rfl dX0_sendRunners_115 ?_
          refine lv_iload_n hx hb dX0_sendRunners_118 rfl (lv_at hl 1 rfl) ?_
          refine sp_iald hx hb hK.1 hP 3 0 rfl rfl (by omega) (by omega) dX0_sendRunners_119 ?_
          refine sp_top pk_us ?_
          refine lv_if_gt (tgt := 158) hx hb dX0_sendRunners_120 (by decide) (fun c120 => ?_) (fun c120 => ?_)
          · skip
            refine lv_iinc (v := nI (r + 1)) (lv' := [(1, .int (nI (r + 1))), (2, .int ld), (0, .ref a0)]) hx hb dX0_sendRunners_158 hl (k := 1) rfl ((nI_1 r)) (by decide) rfl (fun ls hl => ?_)
            refine lv_goto (tgt := 2) hx hb dX0_sendRunners_161 (by decide) ?_
            exact ih2 (r + 1) (X.1, X.2.1, upd X.2.2 r ((X.2.2 r) - 1)) (by omega) (by omega) (by show cRun F n r (cSend F n (P, L, G) r) = _; rw [eX]; unfold cRun; rw [← eld, if_neg c37, if_neg (fun q => q.1 c120)]) _ _ hP hD hS ls (lv_sub hl [0, 2] rfl)
          · skip
            refine lv_iload_n hx hb dX0_sendRunners_123 rfl (lv_at hl 0 rfl) ?_
            refine lv_if_lt (tgt := 158) hx hb dX0_sendRunners_124 (by decide) (fun c124 => ?_) (fun c124 => ?_)
            · skip
              refine lv_iinc (v := nI (r + 1)) (lv' := [(1, .int (nI (r + 1))), (2, .int ld), (0, .ref a0)]) hx hb dX0_sendRunners_158 hl (k := 1) rfl ((nI_1 r)) (by decide) rfl (fun ls hl => ?_)
              refine lv_goto (tgt := 2) hx hb dX0_sendRunners_161 (by decide) ?_
              exact ih2 (r + 1) (X.1, X.2.1, upd X.2.2 r ((X.2.2 r) - 1)) (by omega) (by omega) (by show cRun F n r (cSend F n (P, L, G) r) = _; rw [eX]; unfold cRun; rw [← eld, if_neg c37, if_neg (fun q => q.2.1 c124)]) _ _ hP hD hS ls (lv_sub hl [0, 2] rfl)
            · skip
              refine lv_iload_n hx hb dX0_sendRunners_127 rfl (lv_at hl 0 rfl) ?_
              refine lv_aload_n hx hb dX0_sendRunners_128 rfl (lv_at hl 2 rfl) ?_
              refine va_get (D := D) (ci := 0) (v := .ref a1) (C := RX0) (T := TX0) (N := 20) hx hb hts hiX0 hown hK.1 hP 0 rfl rfl 17 (by decide) (hts (.fieldLink RX0 40 "SledgeRace$Team" "places" "[I") (by decide +kernel)) (fun _ h9 => h9) rfl dX0_sendRunners_129 ?_
              refine va_alen hx hb hK.1 hP 1 0 rfl rfl (v := 8) rfl dX0_sendRunners_132 ?_
              refine lx_icmp_ge (tgt := 158) hx hb dX0_sendRunners_133 (by decide) (fun c133 => ?_) (fun c133 => ?_)
              · skip
                refine lv_iinc (v := nI (r + 1)) (lv' := [(1, .int (nI (r + 1))), (2, .int ld), (0, .ref a0)]) hx hb dX0_sendRunners_158 hl (k := 1) rfl ((nI_1 r)) (by decide) rfl (fun ls hl => ?_)
                refine lv_goto (tgt := 2) hx hb dX0_sendRunners_161 (by decide) ?_
                exact ih2 (r + 1) (X.1, X.2.1, upd X.2.2 r ((X.2.2 r) - 1)) (by omega) (by omega) (by show cRun F n r (cSend F n (P, L, G) r) = _; rw [eX]; unfold cRun; rw [← eld, if_neg c37, if_neg (fun q => c133 q.2.2)]) _ _ hP hD hS ls (lv_sub hl [0, 2] rfl)
              · skip
                obtain ⟨j, hj, ej⟩ : ∃ j : Nat, j < 8 ∧ ld = nI j := sp_ix c124 c133
                subst ej
                refine lv_aload_n hx hb dX0_sendRunners_136 rfl (lv_at hl 2 rfl) ?_
                refine va_get (D := D) (ci := 0) (v := .ref a1) (C := RX0) (T := TX0) (N := 20) hx hb hts hiX0 hown hK.1 hP 0 rfl rfl 17 (by decide) (hts (.fieldLink RX0 40 "SledgeRace$Team" "places" "[I") (by decide +kernel)) (fun _ h9 => h9) rfl dX0_sendRunners_137 ?_
                refine lv_iload_n hx hb dX0_sendRunners_140 rfl (lv_at hl 0 rfl) ?_
                refine lv_aload_n hx hb dX0_sendRunners_141 rfl (lv_at hl 2 rfl) ?_
                refine va_get (D := D) (ci := 0) (v := .int (F 10)) (C := RX0) (T := TX0) (N := 20) hx hb hts hiX0 hown hK.1 hP 0 rfl rfl 10 (by decide) (hts (.fieldLink RX0 53 "SledgeRace$Team" "front" "I") (by decide +kernel)) (fun _ h9 => h9) rfl dX0_sendRunners_142 ?_
                refine lv_aload_n hx hb dX0_sendRunners_145 rfl (lv_at hl 2 rfl) ?_
                refine va_get (D := D) (ci := 0) (v := .int (F 9)) (C := RX0) (T := TX0) (N := 20) hx hb hts hiX0 hown hK.1 hP 0 rfl rfl 9 (by decide) (hts (.fieldLink RX0 37 "SledgeRace$Team" "gap" "I") (by decide +kernel)) (fun _ h9 => h9) rfl dX0_sendRunners_146 ?_
                refine lv_iadd hx hb dX0_sendRunners_149 ?_
                refine sp_iast hx hb hK.1 hP hD hS 1 0 rfl rfl (by omega) (by omega) dX0_sendRunners_150 (fun H locs hP hD hS => ?_)
                have hP : va_P D vwCl [(a0, oT F a1 a2 a3), (a1, aI cI 8 (upd X.1 j ((F 10) + (F 9)))), (a2, aI cI 3 X.2.1), (a3, aI cI 3 (upd X.2.2 r ((X.2.2 r) - 1)))] H := hP
                have hD : va_D A [(a0, oT F a1 a2 a3), (a1, aI cI 8 (upd X.1 j ((F 10) + (F 9)))), (a2, aI cI 3 X.2.1), (a3, aI cI 3 (upd X.2.2 r ((X.2.2 r) - 1)))] := hD
                refine lv_aload_n hx hb dX0_sendRunners_151 rfl (lv_at hl 2 rfl) ?_
                refine va_get (D := D) (ci := 0) (v := .ref a2) (C := RX0) (T := TX0) (N := 20) hx hb hts hiX0 hown hK.1 hP 0 rfl rfl 18 (by decide) (hts (.fieldLink RX0 44 "SledgeRace$Team" "loads" "[I") (by decide +kernel)) (fun _ h9 => h9) rfl dX0_sendRunners_152 ?_
                refine lv_iload_n hx hb dX0_sendRunners_155 rfl (lv_at hl 1 rfl) ?_
                refine lv_iconst (v := (-1)) hx hb dX0_sendRunners_156 (by decide) ?_
                refine sp_iast hx hb hK.1 hP hD hS 2 0 rfl rfl (by omega) (by omega) dX0_sendRunners_157 (fun H locs hP hD hS => ?_)
                have hP : va_P D vwCl [(a0, oT F a1 a2 a3), (a1, aI cI 8 (upd X.1 j ((F 10) + (F 9)))), (a2, aI cI 3 (upd X.2.1 r (-1))), (a3, aI cI 3 (upd X.2.2 r ((X.2.2 r) - 1)))] H := hP
                have hD : va_D A [(a0, oT F a1 a2 a3), (a1, aI cI 8 (upd X.1 j ((F 10) + (F 9)))), (a2, aI cI 3 (upd X.2.1 r (-1))), (a3, aI cI 3 (upd X.2.2 r ((X.2.2 r) - 1)))] := hD
                refine lv_iinc (v := nI (r + 1)) (lv' := [(1, .int (nI (r + 1))), (2, .int (nI j)), (0, .ref a0)]) hx hb dX0_sendRunners_158 hl (k := 1) rfl ((nI_1 r)) (by decide) rfl (fun ls hl => ?_)
                refine lv_goto (tgt := 2) hx hb dX0_sendRunners_161 (by decide) ?_
                exact ih2 (r + 1) (upd X.1 j ((F 10) + (F 9)), upd X.2.1 r (-1), upd X.2.2 r ((X.2.2 r) - 1)) (by omega) (by omega) (by show cRun F n r (cSend F n (P, L, G) r) = _; rw [eX]; unfold cRun; rw [← eld, if_neg c37, if_pos ⟨c120, c124, c133⟩, nI_clamp (by omega)]) _ _ hP hD hS ls (lv_sub hl [0, 2] rfl)
        · skip
          refine lv_aload_n hx hb dX0_sendRunners_40 rfl (lv_at hl 2 rfl) ?_
          refine sp_rV (rest := []) (As := []) ⟨hx, hb, hml, hown, hts⟩ (mX0_lastBehind l D cI cT a0 a1 a2 a3 F X.1 n hn h3) (cwV 0 hts gX0_sendRunners_X0_lastBehind rfl rfl rfl (by decide +kernel) ⟨Nat.le_of_ble_eq_true rfl, Nat.le_of_ble_eq_true rfl⟩) hK (sp_pick hP [0, 1] rfl) (ci := 0) rfl rfl rfl rfl hl.1 rfl (Nat.le_of_ble_eq_true rfl) dX0_sendRunners_41 ⟨Nat.le_of_ble_eq_true rfl, Nat.le_of_ble_eq_true rfl⟩ ?_
          refine lv_topi (fun tk etk => ?_)
          refine lv_istore_n (lv' := [(3, .int tk), (2, .int ld), (1, .int (nI r)), (0, .ref a0)]) hx hb dX0_sendRunners_44 rfl hl (by decide) rfl (fun ls hl => ?_)
          refine lv_iload_n hx hb dX0_sendRunners_45 rfl (lv_at hl 0 rfl) ?_
          refine lv_if_lt (tgt := 101) hx hb dX0_sendRunners_46 (by decide) (fun c46 => ?_) (fun c46 => ?_)
          · skip
            refine lv_goto (tgt := 158) hx hb dX0_sendRunners_101 (by decide) ?_
            refine lv_iinc (v := nI (r + 1)) (lv' := [(1, .int (nI (r + 1))), (3, .int tk), (2, .int ld), (0, .ref a0)]) hx hb dX0_sendRunners_158 hl (k := 2) rfl ((nI_1 r)) (by decide) rfl (fun ls hl => ?_)
            refine lv_goto (tgt := 2) hx hb dX0_sendRunners_161 (by decide) ?_
            exact ih2 (r + 1) X (by omega) (by omega) (by show cRun F n r (cSend F n (P, L, G) r) = _; rw [eX]; unfold cRun; rw [if_pos (eld.symm.trans c37), ← etk, if_neg (fun q => q.1 c46)]) _ _ hP hD hS ls (lv_sub hl [0, 3] rfl)
          · skip
            refine lv_iload_n hx hb dX0_sendRunners_49 rfl (lv_at hl 0 rfl) ?_
            refine lv_aload_n hx hb dX0_sendRunners_50 rfl (lv_at hl 3 rfl) ?_
            refine va_get (D := D) (ci := 0) (v := .ref a1) (C := RX0) (T := TX0) (N := 20) hx hb hts hiX0 hown hK.1 hP 0 rfl rfl 17 (by decide) (hts (.fieldLink RX0 40 "SledgeRace$Team" "places" "[I") (by decide +kernel)) (fun _ h9 => h9) rfl dX0_sendRunners_51 ?_
            refine va_alen hx hb hK.1 hP 1 0 rfl rfl (v := 8) rfl dX0_sendRunners_54 ?_
            refine lx_icmp_ge (tgt := 101) hx hb dX0_sendRunners_55 (by decide) (fun c55 => ?_) (fun c55 => ?_)
            · skip
              refine lv_goto (tgt := 158) hx hb dX0_sendRunners_101 (by decide) ?_
              refine lv_iinc (v := nI (r + 1)) (lv' := [(1, .int (nI (r + 1))), (3, .int tk), (2, .int ld), (0, .ref a0)]) hx hb dX0_sendRunners_158 hl (k := 2) rfl ((nI_1 r)) (by decide) rfl (fun ls hl => ?_)
              refine lv_goto (tgt := 2) hx hb dX0_sendRunners_161 (by decide) ?_
              exact ih2 (r + 1) X (by omega) (by omega) (by show cRun F n r (cSend F n (P, L, G) r) = _; rw [eX]; unfold cRun; rw [if_pos (eld.symm.trans c37), ← etk, if_neg (fun q => c55 q.2)]) _ _ hP hD hS ls (lv_sub hl [0, 3] rfl)
            · skip
              obtain ⟨j, hj, ej⟩ : ∃ j : Nat, j < 8 ∧ tk = nI j := sp_ix c46 c55
              subst ej
              refine lv_aload_n hx hb dX0_sendRunners_58 rfl (lv_at hl 3 rfl) ?_
              refine va_get (D := D) (ci := 0) (v := .ref a2) (C := RX0) (T := TX0) (N := 20) hx hb hts hiX0 hown hK.1 hP 0 rfl rfl 18 (by decide) (hts (.fieldLink RX0 44 "SledgeRace$Team" "loads" "[I") (by decide +kernel)) (fun _ h9 => h9) rfl dX0_sendRunners_59 ?_
              refine lv_iload_n hx hb dX0_sendRunners_62 rfl (lv_at hl 2 rfl) ?_
              refine lv_iload_n hx hb dX0_sendRunners_63 rfl (lv_at hl 0 rfl) ?_
              refine sp_iast hx hb hK.1 hP hD hS 2 0 rfl rfl (by omega) (by omega) dX0_sendRunners_64 (fun H locs hP hD hS => ?_)
              have hP : va_P D vwCl [(a0, oT F a1 a2 a3), (a1, aI cI 8 X.1), (a2, aI cI 3 (upd X.2.1 r (nI j))), (a3, aI cI 3 X.2.2)] H := hP
              have hD : va_D A [(a0, oT F a1 a2 a3), (a1, aI cI 8 X.1), (a2, aI cI 3 (upd X.2.1 r (nI j))), (a3, aI cI 3 X.2.2)] := hD
              refine lv_aload_n hx hb dX0_sendRunners_65 rfl (lv_at hl 3 rfl) ?_
              refine va_get (D := D) (ci := 0) (v := .ref a3) (C := RX0) (T := TX0) (N := 20) hx hb hts hiX0 hown hK.1 hP 0 rfl rfl 19 (by decide) (hts (.fieldLink RX0 47 "SledgeRace$Team" "ticksToGo" "[I") (by decide +kernel)) (fun _ h9 => h9) rfl dX0_sendRunners_66 ?_
              refine lv_iload_n hx hb dX0_sendRunners_69 rfl (lv_at hl 2 rfl) ?_
              refine lv_aload_n hx hb dX0_sendRunners_70 rfl (lv_at hl 3 rfl) ?_
              refine va_get (D := D) (ci := 0) (v := .int (F 10)) (C := RX0) (T := TX0) (N := 20) hx hb hts hiX0 hown hK.1 hP 0 rfl rfl 10 (by decide) (hts (.fieldLink RX0 53 "SledgeRace$Team" "front" "I") (by decide +kernel)) (fun _ h9 => h9) rfl dX0_sendRunners_71 ?_
              refine lv_aload_n hx hb dX0_sendRunners_74 rfl (lv_at hl 3 rfl) ?_
              refine va_get (D := D) (ci := 0) (v := .int (F 9)) (C := RX0) (T := TX0) (N := 20) hx hb hts hiX0 hown hK.1 hP 0 rfl rfl 9 (by decide) (hts (.fieldLink RX0 37 "SledgeRace$Team" "gap" "I") (by decide +kernel)) (fun _ h9 => h9) rfl dX0_sendRunners_75 ?_
              refine lv_iadd hx hb dX0_sendRunners_78 ?_
              refine lv_aload_n hx hb dX0_sendRunners_79 rfl (lv_at hl 3 rfl) ?_
              refine va_get (D := D) (ci := 0) (v := .ref a1) (C := RX0) (T := TX0) (N := 20) hx hb hts hiX0 hown hK.1 hP 0 rfl rfl 17 (by decide) (hts (.fieldLink RX0 40 "SledgeRace$Team" "places" "[I") (by decide +kernel)) (fun _ h9 => h9) rfl dX0_sendRunners_80 ?_
              refine lv_iload_n hx hb dX0_sendRunners_83 rfl (lv_at hl 0 rfl) ?_
              refine sp_iald hx hb hK.1 hP 1 0 rfl rfl (by omega) (by omega) dX0_sendRunners_84 ?_
              refine lv_isub hx hb dX0_sendRunners_85 ?_
              refine lv_bipush (v := 12) hx hb dX0_sendRunners_86 (by decide) ?_
              refine lv_idiv hx hb dX0_sendRunners_88 (by decide) ?_
              refine lv_iconst (v := 2) hx hb dX0_sendRunners_89 (by decide) ?_
              refine lv_iadd hx hb dX0_sendRunners_90 ?_
              refine sp_iast hx hb hK.1 hP hD hS 3 0 rfl rfl (by omega) (by omega) dX0_sendRunners_91 (fun H locs hP hD hS => ?_)
              have hP : va_P D vwCl [(a0, oT F a1 a2 a3), (a1, aI cI 8 X.1), (a2, aI cI 3 (upd X.2.1 r (nI j))), (a3, aI cI 3 (upd X.2.2 r (((((F 10) + (F 9)) - (X.1 j)) / 12) + 2)))] H := hP
              have hD : va_D A [(a0, oT F a1 a2 a3), (a1, aI cI 8 X.1), (a2, aI cI 3 (upd X.2.1 r (nI j))), (a3, aI cI 3 (upd X.2.2 r (((((F 10) + (F 9)) - (X.1 j)) / 12) + 2)))] := hD
              refine lv_aload_n hx hb dX0_sendRunners_92 rfl (lv_at hl 3 rfl) ?_
              refine va_get (D := D) (ci := 0) (v := .ref a1) (C := RX0) (T := TX0) (N := 20) hx hb hts hiX0 hown hK.1 hP 0 rfl rfl 17 (by decide) (hts (.fieldLink RX0 40 "SledgeRace$Team" "places" "[I") (by decide +kernel)) (fun _ h9 => h9) rfl dX0_sendRunners_93 ?_
              refine lv_iload_n hx hb dX0_sendRunners_96 rfl (lv_at hl 0 rfl) ?_
              refine lv_sipush (v := (-9999)) hx hb dX0_sendRunners_97 (by decide) ?_
              refine sp_iast hx hb hK.1 hP hD hS 1 0 rfl rfl (by omega) (by omega) dX0_sendRunners_100 (fun H locs hP hD hS => ?_)
              have hP : va_P D vwCl [(a0, oT F a1 a2 a3), (a1, aI cI 8 (upd X.1 j (-9999))), (a2, aI cI 3 (upd X.2.1 r (nI j))), (a3, aI cI 3 (upd X.2.2 r (((((F 10) + (F 9)) - (X.1 j)) / 12) + 2)))] H := hP
              have hD : va_D A [(a0, oT F a1 a2 a3), (a1, aI cI 8 (upd X.1 j (-9999))), (a2, aI cI 3 (upd X.2.1 r (nI j))), (a3, aI cI 3 (upd X.2.2 r (((((F 10) + (F 9)) - (X.1 j)) / 12) + 2)))] := hD
              refine lv_goto (tgt := 158) hx hb dX0_sendRunners_101 (by decide) ?_
              refine lv_iinc (v := nI (r + 1)) (lv' := [(1, .int (nI (r + 1))), (3, .int (nI j)), (2, .int ld), (0, .ref a0)]) hx hb dX0_sendRunners_158 hl (k := 2) rfl ((nI_1 r)) (by decide) rfl (fun ls hl => ?_)
              refine lv_goto (tgt := 2) hx hb dX0_sendRunners_161 (by decide) ?_
              exact ih2 (r + 1) (upd X.1 j (-9999), upd X.2.1 r (nI j), upd X.2.2 r (((((F 10) + (F 9)) - (X.1 j)) / 12) + 2)) (by omega) (by omega) (by show cRun F n r (cSend F n (P, L, G) r) = _; rw [eX]; unfold cRun; rw [if_pos (eld.symm.trans c37), ← etk, if_pos ⟨c46, c55⟩, nI_clamp (by omega)]) _ _ hP hD hS ls (lv_sub hl [0, 3] rfl)
  exact loop2 _ 0 (P, L, G) (Nat.lt_succ_self _) (Nat.zero_le _) (rfl) _ _ hP hD hS ls (lv_sub hl [0, 1] rfl)

abbrev rmX0_passTick : Room := { frames := 3, cells := 0, slots := 0, locals := 71 }
set_option maxHeartbeats 4000000 in
set_option maxRecDepth 100000 in
/-- a tick goes by -/
theorem mX0_passTick (l : Launch) (D : va_G) (cI cT : ClassId) (a0 a1 a2 a3 : Nat) (F P L G : Nat → Int32) (tk : Int32) (n : Nat) (hn : n ≤ 8) (h3 : F 3 = nI n) (nh : Nat) (hnh : nh ≤ 3) (h6 : F 6 = nI nh) (k0 k1 k2 k3 : Nat) (KF S U V : Nat → Int32) (ns : Nat) (hns : ns ≤ 12) (hk : KF 3 = nI ns) : MetV l D cI cT yX0_passTick wsX0_passTick rmX0_passTick [.ref a0, .int tk, .ref k0] [(a0, oT F a1 a2 a3), (a1, aI cI 8 P), (a2, aI cI 3 L), (a3, aI cI 3 G)] [(k0, oK KF k1 k2 k3), (k1, aI cI 12 S), (k2, aI cI 12 U), (k3, aI cI 12 V)] [(a0, oT (cTick n nh S U V ns (KF 4) tk (F, P, L, G)).1 a1 a2 a3), (a1, aI cI 8 (cTick n nh S U V ns (KF 4) tk (F, P, L, G)).2.1), (a2, aI cI 3 (cTick n nh S U V ns (KF 4) tk (F, P, L, G)).2.2.1), (a3, aI cI 3 (cTick n nh S U V ns (KF 4) tk (F, P, L, G)).2.2.2)] := by
  refine Met.ofW (cc := cX0_passTick) (maxL := 4) (ret := none) (by decide) rfl ?_
  intro p e s m args below meth c s₁ B hml hv
  obtain ⟨hargs, hP, hR0, hK, hN⟩ := hv
  have hx := B.exec
  have hb := B.bytes
  have hr := B.returns
  have hts := atoms_spec (ws := wsX0_passTick) B.pre
  have hown : s.vm.findClass RX0 = some m.cls := findClass_of_methodNamed B.named
  have hlocks := B.notSynchronized
  have hiX0 : ∀ w ∈ u_ws RX0 TX0 20, w ∈ wsX0_passTick := by decide +kernel
  have hiX1 : ∀ w ∈ u_ws RX1 TX1 5, w ∈ wsX0_passTick := by decide +kernel
  have he : entryFrame m args 4 = F0 m 0 ((lg_sl [.ref a0, .int tk, .ref k0] ++ List.replicate (4 - (lg_sl [.ref a0, .int tk, .ref k0]).length) Slot.unset).toArray) [] := by rw [hargs]; exact lg_entry_eq m _ _
  rw [he]
  change W p l e rmX0_passTick s m args below meth c s.heap [] 0 0 (MQ below (va_Qv (S := Unit) (fun _ => True) (fun _ t => va_P D vwCl [(a0, oT (cTick n nh S U V ns (KF 4) tk (F, P, L, G)).1 a1 a2 a3), (a1, aI cI 8 (cTick n nh S U V ns (KF 4) tk (F, P, L, G)).2.1), (a2, aI cI 3 (cTick n nh S U V ns (KF 4) tk (F, P, L, G)).2.2.1), (a3, aI cI 3 (cTick n nh S U V ns (KF 4) tk (F, P, L, G)).2.2.2)] t.heap) (fr (List.map Prod.fst [(a0, oT F a1 a2 a3), (a1, aI cI 8 P), (a2, aI cI 3 L), (a3, aI cI 3 G)]))) args s 0 0 (fr (List.map Prod.fst [(a0, oT F a1 a2 a3), (a1, aI cI 8 P), (a2, aI cI 3 L), (a3, aI cI 3 G)]))) _
  obtain ⟨Q, hQ⟩ : ∃ Q, Q = MQ below (va_Qv (S := Unit) (fun _ => True) (fun _ t => va_P D vwCl [(a0, oT (cTick n nh S U V ns (KF 4) tk (F, P, L, G)).1 a1 a2 a3), (a1, aI cI 8 (cTick n nh S U V ns (KF 4) tk (F, P, L, G)).2.1), (a2, aI cI 3 (cTick n nh S U V ns (KF 4) tk (F, P, L, G)).2.2.1), (a3, aI cI 3 (cTick n nh S U V ns (KF 4) tk (F, P, L, G)).2.2.2)] t.heap) (fr (List.map Prod.fst [(a0, oT F a1 a2 a3), (a1, aI cI 8 P), (a2, aI cI 3 L), (a3, aI cI 3 G)]))) args s 0 0 (fr (List.map Prod.fst [(a0, oT F a1 a2 a3), (a1, aI cI 8 P), (a2, aI cI 3 L), (a3, aI cI 3 G)])) := ⟨_, rfl⟩
  rw [← hQ]
  have hl := lv_entry [.ref a0, .int tk, .ref k0] (n := 4) (Nat.le_of_ble_eq_true rfl)
  generalize (lg_sl [.ref a0, .int tk, .ref k0] ++ List.replicate (4 - (lg_sl [.ref a0, .int tk, .ref k0]).length) Slot.unset).toArray = ls at hl ⊢
  have hl : lv_has ls 4 [(0, .ref a0), (1, .int tk), (2, .ref k0)] := hl
  obtain ⟨A, hAe⟩ : ∃ A, A = (fr (List.map Prod.fst [(a0, oT F a1 a2 a3), (a1, aI cI 8 P), (a2, aI cI 3 L), (a3, aI cI 3 G)])) := ⟨_, rfl⟩
  have hA0 : ∀ q ∈ List.map Prod.fst [(a0, oT F a1 a2 a3), (a1, aI cI 8 P), (a2, aI cI 3 L), (a3, aI cI 3 G)], A q := by rw [hAe]; exact fun q h => h
  have hD : va_D A [(a0, oT F a1 a2 a3), (a1, aI cI 8 P), (a2, aI cI 3 L), (a3, aI cI 3 G)] := sp_D (List.nodup_append.mp (show (([(a0, oT F a1 a2 a3), (a1, aI cI 8 P), (a2, aI cI 3 L), (a3, aI cI 3 G)] : va_W).map Prod.fst ++ ([(k0, oK KF k1 k2 k3), (k1, aI cI 12 S), (k2, aI cI 12 U), (k3, aI cI 12 V)] : va_W).map Prod.fst).Nodup by rw [← List.map_append]; exact hN)).1 hA0
  have hN : (List.map Prod.fst ([(a0, oT F a1 a2 a3), (a1, aI cI 8 P), (a2, aI cI 3 L), (a3, aI cI 3 G)] ++ [(k0, oK KF k1 k2 k3), (k1, aI cI 12 S), (k2, aI cI 12 U), (k3, aI cI 12 V)]) : List Nat).Nodup := hN
  have hS : va_S A s.heap s.heap [] := va_S.rf
  have hR : ∀ (H : Heap) (locs : List Loc), va_S A s.heap H locs → va_P D vwCl [(k0, oK KF k1 k2 k3), (k1, aI cI 12 S), (k2, aI cI 12 U), (k3, aI cI 12 V)] H := fun H locs hS => sp_ro hR0 (by rw [hAe]; exact sp_apart (show (([(a0, oT F a1 a2 a3), (a1, aI cI 8 P), (a2, aI cI 3 L), (a3, aI cI 3 G)] : va_W).map Prod.fst ++ ([(k0, oK KF k1 k2 k3), (k1, aI cI 12 S), (k2, aI cI 12 U), (k3, aI cI 12 V)] : va_W).map Prod.fst).Nodup by rw [← List.map_append]; exact hN)) hS
  have join32 : ∀ (E : Nat → Int32), (E = cSnap F) → (E 3 = nI n) → (E 6 = nI nh) → (cE F = false) → ∀ (H : Heap) (locs : List Loc), va_P D vwCl [(a0, oT E a1 a2 a3), (a1, aI cI 8 P), (a2, aI cI 3 L), (a3, aI cI 3 G)] H → va_D A [(a0, oT E a1 a2 a3), (a1, aI cI 8 P), (a2, aI cI 3 L), (a3, aI cI 3 G)] → va_S A s.heap H locs → ∀ (ls : Array Slot), lv_has ls 4 [(3, .int (cPull F)), (0, .ref a0), (1, .int tk), (2, .ref k0)] → W p l e rmX0_passTick s m args below meth c H locs 0 0 Q (F0 m 32 ls []) := by
    intro E eE hE3 hE6 cj H locs hP hD hS ls hl
    refine lv_aload_n hx hb dX0_passTick_32 rfl (lv_at hl 1 rfl) ?_
    refine va_get (D := D) (ci := 0) (v := .int (E 13)) (C := RX0) (T := TX0) (N := 20) hx hb hts hiX0 hown hK.1 hP 0 rfl rfl 13 (by decide) (hts (.fieldLink RX0 62 "SledgeRace$Team" "knotting" "I") (by decide +kernel)) (fun _ h9 => h9) rfl dX0_passTick_33 ?_
    refine lx_if_le (tgt := 60) hx hb dX0_passTick_36 (by decide) (fun c36 => ?_) (fun c36 => ?_)
    · skip
      refine lv_aload_n hx hb dX0_passTick_60 rfl (lv_at hl 1 rfl) ?_
      refine lv_aload_n hx hb dX0_passTick_61 rfl (lv_at hl 1 rfl) ?_
      refine lv_iload_n hx hb dX0_passTick_62 rfl (lv_at hl 0 rfl) ?_
      refine lv_aload_n hx hb dX0_passTick_63 rfl (lv_at hl 1 rfl) ?_
      refine lv_aload_n hx hb dX0_passTick_64 rfl (lv_at hl 3 rfl) ?_
      refine sp_rV (rest := [.int (cPull F), .ref a0, .ref a0]) (As := [.ref k0]) ⟨hx, hb, hml, hown, hts⟩ (mX0_drag l D cI cT a0 a1 a2 a3 E P n hn hE3 k0 k1 k2 k3 KF S U V ns hns hk) (cwV 1 hts gX0_passTick_X0_drag rfl rfl rfl (by decide +kernel) ⟨Nat.le_of_ble_eq_true rfl, Nat.le_of_ble_eq_true rfl⟩) hK (va_P.app (w1 := [(a0, oT E a1 a2 a3), (a1, aI cI 8 P)]) (w2 := [(k0, oK KF k1 k2 k3), (k1, aI cI 12 S), (k2, aI cI 12 U), (k3, aI cI 12 V)]) (sp_pick hP [0, 1] rfl) (sp_pick (hR H locs hS) [0, 1, 2, 3] rfl)) (ci := 0) rfl rfl rfl rfl hl.1 rfl (Nat.le_of_ble_eq_true rfl) dX0_passTick_65 ⟨Nat.le_of_ble_eq_true rfl, Nat.le_of_ble_eq_true rfl⟩ ?_
      refine sp_rV (rest := [.ref a0]) (As := [.int (cPull F), .int (cDrag E P n (cGr S U ns (E 10)) (cGr S V ns (E 10)))]) ⟨hx, hb, hml, hown, hts⟩ (mX0_wayWith l D cI cT a0 a1 a2 a3 E (cPull F) (cDrag E P n (cGr S U ns (E 10)) (cGr S V ns (E 10)))) (cwV 2 hts gX0_passTick_X0_wayWith rfl rfl rfl (by decide +kernel) ⟨Nat.le_of_ble_eq_true rfl, Nat.le_of_ble_eq_true rfl⟩) hK (sp_pick hP [0] rfl) (ci := 0) rfl rfl rfl rfl hl.1 rfl (Nat.le_of_ble_eq_true rfl) dX0_passTick_68 ⟨Nat.le_of_ble_eq_true rfl, Nat.le_of_ble_eq_true rfl⟩ ?_
      refine va_put (D := D) (ci := 0) (v := .int (cWay E (cPull F) (cDrag E P n (cGr S U ns (E 10)) (cGr S V ns (E 10))))) (ty := .int) (C := RX0) (T := TX0) (N := 20) hx hb hts hiX0 tyX0 tyX0_ok nmX0 hown hK.1 hP hD hS 0 rfl rfl 15 (by decide) (hts (.fieldLink RX0 68 "SledgeRace$Team" "way" "I") (by decide +kernel)) (fun _ h9 => h9) rfl (by decide +kernel) rfl rfl (Nat.le_of_ble_eq_true rfl) dX0_passTick_71 (fun H locs hP hD hS => ?_)
      have hP : va_P D vwCl [(a0, oT (upd E 15 (cWay E (cPull F) (cDrag E P n (cGr S U ns (E 10)) (cGr S V ns (E 10))))) a1 a2 a3), (a1, aI cI 8 P), (a2, aI cI 3 L), (a3, aI cI 3 G)] H := hP
      have hD : va_D A [(a0, oT (upd E 15 (cWay E (cPull F) (cDrag E P n (cGr S U ns (E 10)) (cGr S V ns (E 10))))) a1 a2 a3), (a1, aI cI 8 P), (a2, aI cI 3 L), (a3, aI cI 3 G)] := hD
      refine lv_aload_n hx hb dX0_passTick_74 rfl (lv_at hl 1 rfl) ?_
      refine sp_vV (rest := []) (As := []) (W1 := [(a0, oT (cT4 (upd E 15 (cWay E (cPull F) (cDrag E P n (cGr S U ns (E 10)) (cGr S V ns (E 10)))))) a1 a2 a3), (a1, aI cI 8 (cMoveP (upd E 15 (cWay E (cPull F) (cDrag E P n (cGr S U ns (E 10)) (cGr S V ns (E 10))))) P n)), (a2, aI cI 3 L), (a3, aI cI 3 G)]) ⟨hx, hb, hml, hown, hts⟩ (mX0_moveOn l D cI cT a0 a1 a2 a3 (upd E 15 (cWay E (cPull F) (cDrag E P n (cGr S U ns (E 10)) (cGr S V ns (E 10))))) P n hn hE3) (cwV 0 hts gX0_passTick_X0_moveOn rfl rfl rfl (by decide +kernel) ⟨Nat.le_of_ble_eq_true rfl, Nat.le_of_ble_eq_true rfl⟩) hK hP hD hS [0, 1] rfl (fun k q h => by simp at h) (sp_nsub hN [0, 1] (by decide) rfl) rfl rfl rfl (ci := 0) rfl rfl rfl rfl hl.1 rfl (Nat.le_of_ble_eq_true rfl) dX0_passTick_75 ⟨Nat.le_of_ble_eq_true rfl, Nat.le_of_ble_eq_true rfl⟩ (fun H locs hP hD hS => ?_)
      refine lv_aload_n hx hb dX0_passTick_78 rfl (lv_at hl 1 rfl) ?_
      refine sp_vV (rest := []) (As := []) (W1 := [(a0, oT (cT4 (upd E 15 (cWay E (cPull F) (cDrag E P n (cGr S U ns (E 10)) (cGr S V ns (E 10)))))) a1 a2 a3), (a1, aI cI 8 ((cSend (cT4 (upd E 15 (cWay E (cPull F) (cDrag E P n (cGr S U ns (E 10)) (cGr S V ns (E 10)))))) n (cMoveP (upd E 15 (cWay E (cPull F) (cDrag E P n (cGr S U ns (E 10)) (cGr S V ns (E 10))))) P n, L, G) nh).1)), (a2, aI cI 3 ((cSend (cT4 (upd E 15 (cWay E (cPull F) (cDrag E P n (cGr S U ns (E 10)) (cGr S V ns (E 10)))))) n (cMoveP (upd E 15 (cWay E (cPull F) (cDrag E P n (cGr S U ns (E 10)) (cGr S V ns (E 10))))) P n, L, G) nh).2.1)), (a3, aI cI 3 ((cSend (cT4 (upd E 15 (cWay E (cPull F) (cDrag E P n (cGr S U ns (E 10)) (cGr S V ns (E 10)))))) n (cMoveP (upd E 15 (cWay E (cPull F) (cDrag E P n (cGr S U ns (E 10)) (cGr S V ns (E 10))))) P n, L, G) nh).2.2))]) ⟨hx, hb, hml, hown, hts⟩ (mX0_sendRunners l D cI cT a0 a1 a2 a3 (cT4 (upd E 15 (cWay E (cPull F) (cDrag E P n (cGr S U ns (E 10)) (cGr S V ns (E 10)))))) (cMoveP (upd E 15 (cWay E (cPull F) (cDrag E P n (cGr S U ns (E 10)) (cGr S V ns (E 10))))) P n) L G n hn hE3 nh hnh hE6) (cwV 0 hts gX0_passTick_X0_sendRunners rfl rfl rfl (by decide +kernel) ⟨Nat.le_of_ble_eq_true rfl, Nat.le_of_ble_eq_true rfl⟩) hK hP hD hS [0, 1, 2, 3] rfl (fun k q h => by simp at h) (sp_nsub hN [0, 1, 2, 3] (by decide) rfl) rfl rfl rfl (ci := 0) rfl rfl rfl rfl hl.1 rfl (Nat.le_of_ble_eq_true rfl) dX0_passTick_79 ⟨Nat.le_of_ble_eq_true rfl, Nat.le_of_ble_eq_true rfl⟩ (fun H locs hP hD hS => ?_)
      refine lv_aload_n hx hb dX0_passTick_82 rfl (lv_at hl 1 rfl) ?_
      refine lv_aload_n hx hb dX0_passTick_83 rfl (lv_at hl 1 rfl) ?_
      refine va_get (D := D) (ci := 0) (v := .int ((cT4 (upd E 15 (cWay E (cPull F) (cDrag E P n (cGr S U ns (E 10)) (cGr S V ns (E 10)))))) 8)) (C := RX0) (T := TX0) (N := 20) hx hb hts hiX0 hown hK.1 hP 0 rfl rfl 8 (by decide) (hts (.fieldLink RX0 34 "SledgeRace$Team" "effort" "I") (by decide +kernel)) (fun _ h9 => h9) rfl dX0_passTick_84 ?_
      refine sp_vV (rest := []) (As := [.int ((cT4 (upd E 15 (cWay E (cPull F) (cDrag E P n (cGr S U ns (E 10)) (cGr S V ns (E 10)))))) 8)]) (W1 := [(a0, oT (cT5 ((cT4 (upd E 15 (cWay E (cPull F) (cDrag E P n (cGr S U ns (E 10)) (cGr S V ns (E 10)))))) 8) (cT4 (upd E 15 (cWay E (cPull F) (cDrag E P n (cGr S U ns (E 10)) (cGr S V ns (E 10))))))) a1 a2 a3), (a1, aI cI 8 ((cSend (cT4 (upd E 15 (cWay E (cPull F) (cDrag E P n (cGr S U ns (E 10)) (cGr S V ns (E 10)))))) n (cMoveP (upd E 15 (cWay E (cPull F) (cDrag E P n (cGr S U ns (E 10)) (cGr S V ns (E 10))))) P n, L, G) nh).1)), (a2, aI cI 3 ((cSend (cT4 (upd E 15 (cWay E (cPull F) (cDrag E P n (cGr S U ns (E 10)) (cGr S V ns (E 10)))))) n (cMoveP (upd E 15 (cWay E (cPull F) (cDrag E P n (cGr S U ns (E 10)) (cGr S V ns (E 10))))) P n, L, G) nh).2.1)), (a3, aI cI 3 ((cSend (cT4 (upd E 15 (cWay E (cPull F) (cDrag E P n (cGr S U ns (E 10)) (cGr S V ns (E 10)))))) n (cMoveP (upd E 15 (cWay E (cPull F) (cDrag E P n (cGr S U ns (E 10)) (cGr S V ns (E 10))))) P n, L, G) nh).2.2))]) ⟨hx, hb, hml, hown, hts⟩ (mX0_breathe l D cI cT a0 a1 a2 a3 (cT4 (upd E 15 (cWay E (cPull F) (cDrag E P n (cGr S U ns (E 10)) (cGr S V ns (E 10)))))) ((cT4 (upd E 15 (cWay E (cPull F) (cDrag E P n (cGr S U ns (E 10)) (cGr S V ns (E 10)))))) 8)) (cwV 1 hts gX0_passTick_X0_breathe rfl rfl rfl (by decide +kernel) ⟨Nat.le_of_ble_eq_true rfl, Nat.le_of_ble_eq_true rfl⟩) hK hP hD hS [0] rfl (fun k q h => by simp at h) (sp_nsub hN [0] (by decide) rfl) rfl rfl rfl (ci := 0) rfl rfl rfl rfl hl.1 rfl (Nat.le_of_ble_eq_true rfl) dX0_passTick_87 ⟨Nat.le_of_ble_eq_true rfl, Nat.le_of_ble_eq_true rfl⟩ (fun H locs hP hD hS => ?_)
      refine lv_aload_n hx hb dX0_passTick_90 rfl (lv_at hl 1 rfl) ?_
      refine va_get (D := D) (ci := 0) (v := .int ((cT5 ((cT4 (upd E 15 (cWay E (cPull F) (cDrag E P n (cGr S U ns (E 10)) (cGr S V ns (E 10)))))) 8) (cT4 (upd E 15 (cWay E (cPull F) (cDrag E P n (cGr S U ns (E 10)) (cGr S V ns (E 10))))))) 10)) (C := RX0) (T := TX0) (N := 20) hx hb hts hiX0 hown hK.1 hP 0 rfl rfl 10 (by decide) (hts (.fieldLink RX0 53 "SledgeRace$Team" "front" "I") (by decide +kernel)) (fun _ h9 => h9) rfl dX0_passTick_91 ?_
      refine lv_aload_n hx hb dX0_passTick_94 rfl (lv_at hl 3 rfl) ?_
      refine va_getN (D := D) (ci := 1) (v := .int (KF 4)) (C := RX1) (T := TX1) (N := 5) hx hb hts hiX1 hown hK.1 (hR H locs hS) 0 rfl rfl 4 (by decide) (hK.n (w := .fieldLinkNest RX0 107 "SledgeRace$Track" "length" "I" "SledgeRace") (by decide +kernel)) (fun _ h9 => h9) rfl dX0_passTick_95 ?_
      refine lv_icmp_lt (tgt := 106) hx hb dX0_passTick_98 (by decide) (fun c98 => ?_) (fun c98 => ?_)
      · skip
        subst hQ
        have hP9 : va_P D vwCl [(a0, oT (cTick n nh S U V ns (KF 4) tk (F, P, L, G)).1 a1 a2 a3), (a1, aI cI 8 (cTick n nh S U V ns (KF 4) tk (F, P, L, G)).2.1), (a2, aI cI 3 (cTick n nh S U V ns (KF 4) tk (F, P, L, G)).2.2.1), (a3, aI cI 3 (cTick n nh S U V ns (KF 4) tk (F, P, L, G)).2.2.2)] H := by rw [show cTick n nh S U V ns (KF 4) tk (F, P, L, G) = (cT5 ((cT4 (upd E 15 (cWay E (cPull F) (cDrag E P n (cGr S U ns (E 10)) (cGr S V ns (E 10)))))) 8) (cT4 (upd E 15 (cWay E (cPull F) (cDrag E P n (cGr S U ns (E 10)) (cGr S V ns (E 10)))))), (cSend (cT4 (upd E 15 (cWay E (cPull F) (cDrag E P n (cGr S U ns (E 10)) (cGr S V ns (E 10)))))) n (cMoveP (upd E 15 (cWay E (cPull F) (cDrag E P n (cGr S U ns (E 10)) (cGr S V ns (E 10))))) P n, L, G) nh).1, (cSend (cT4 (upd E 15 (cWay E (cPull F) (cDrag E P n (cGr S U ns (E 10)) (cGr S V ns (E 10)))))) n (cMoveP (upd E 15 (cWay E (cPull F) (cDrag E P n (cGr S U ns (E 10)) (cGr S V ns (E 10))))) P n, L, G) nh).2.1, (cSend (cT4 (upd E 15 (cWay E (cPull F) (cDrag E P n (cGr S U ns (E 10)) (cGr S V ns (E 10)))))) n (cMoveP (upd E 15 (cWay E (cPull F) (cDrag E P n (cGr S U ns (E 10)) (cGr S V ns (E 10))))) P n, L, G) nh).2.2) from by unfold cTick; rw [if_neg (by rw [cj]; decide), ← eE, if_neg c36]; exact Prod.ext (if_pos c98) rfl]; exact hP
        subst hAe
        exact W.vret hx hb hr (fun t ht hW => ⟨⟨(), rfl, trivial, by show va_P D vwCl _ t.heap; rw [ht]; exact hP9⟩, hS.F ht⟩) hS.2.2 dX0_passTick_106
      · skip
        refine lv_aload_n hx hb dX0_passTick_101 rfl (lv_at hl 1 rfl) ?_
        refine lv_iload_n hx hb dX0_passTick_102 rfl (lv_at hl 2 rfl) ?_
        refine va_put (D := D) (ci := 0) (v := .int tk) (ty := .int) (C := RX0) (T := TX0) (N := 20) hx hb hts hiX0 tyX0 tyX0_ok nmX0 hown hK.1 hP hD hS 0 rfl rfl 16 (by decide) (hts (.fieldLink RX0 71 "SledgeRace$Team" "endTick" "I") (by decide +kernel)) (fun _ h9 => h9) rfl (by decide +kernel) rfl rfl (Nat.le_of_ble_eq_true rfl) dX0_passTick_103 (fun H locs hP hD hS => ?_)
        have hP : va_P D vwCl [(a0, oT (upd (cT5 ((cT4 (upd E 15 (cWay E (cPull F) (cDrag E P n (cGr S U ns (E 10)) (cGr S V ns (E 10)))))) 8) (cT4 (upd E 15 (cWay E (cPull F) (cDrag E P n (cGr S U ns (E 10)) (cGr S V ns (E 10))))))) 16 tk) a1 a2 a3), (a1, aI cI 8 ((cSend (cT4 (upd E 15 (cWay E (cPull F) (cDrag E P n (cGr S U ns (E 10)) (cGr S V ns (E 10)))))) n (cMoveP (upd E 15 (cWay E (cPull F) (cDrag E P n (cGr S U ns (E 10)) (cGr S V ns (E 10))))) P n, L, G) nh).1)), (a2, aI cI 3 ((cSend (cT4 (upd E 15 (cWay E (cPull F) (cDrag E P n (cGr S U ns (E 10)) (cGr S V ns (E 10)))))) n (cMoveP (upd E 15 (cWay E (cPull F) (cDrag E P n (cGr S U ns (E 10)) (cGr S V ns (E 10))))) P n, L, G) nh).2.1)), (a3, aI cI 3 ((cSend (cT4 (upd E 15 (cWay E (cPull F) (cDrag E P n (cGr S U ns (E 10)) (cGr S V ns (E 10)))))) n (cMoveP (upd E 15 (cWay E (cPull F) (cDrag E P n (cGr S U ns (E 10)) (cGr S V ns (E 10))))) P n, L, G) nh).2.2))] H := hP
        have hD : va_D A [(a0, oT (upd (cT5 ((cT4 (upd E 15 (cWay E (cPull F) (cDrag E P n (cGr S U ns (E 10)) (cGr S V ns (E 10)))))) 8) (cT4 (upd E 15 (cWay E (cPull F) (cDrag E P n (cGr S U ns (E 10)) (cGr S V ns (E 10))))))) 16 tk) a1 a2 a3), (a1, aI cI 8 ((cSend (cT4 (upd E 15 (cWay E (cPull F) (cDrag E P n (cGr S U ns (E 10)) (cGr S V ns (E 10)))))) n (cMoveP (upd E 15 (cWay E (cPull F) (cDrag E P n (cGr S U ns (E 10)) (cGr S V ns (E 10))))) P n, L, G) nh).1)), (a2, aI cI 3 ((cSend (cT4 (upd E 15 (cWay E (cPull F) (cDrag E P n (cGr S U ns (E 10)) (cGr S V ns (E 10)))))) n (cMoveP (upd E 15 (cWay E (cPull F) (cDrag E P n (cGr S U ns (E 10)) (cGr S V ns (E 10))))) P n, L, G) nh).2.1)), (a3, aI cI 3 ((cSend (cT4 (upd E 15 (cWay E (cPull F) (cDrag E P n (cGr S U ns (E 10)) (cGr S V ns (E 10)))))) n (cMoveP (upd E 15 (cWay E (cPull F) (cDrag E P n (cGr S U ns (E 10)) (cGr S V ns (E 10))))) P n, L, G) nh).2.2))] := hD
        subst hQ
        have hP9 : va_P D vwCl [(a0, oT (cTick n nh S U V ns (KF 4) tk (F, P, L, G)).1 a1 a2 a3), (a1, aI cI 8 (cTick n nh S U V ns (KF 4) tk (F, P, L, G)).2.1), (a2, aI cI 3 (cTick n nh S U V ns (KF 4) tk (F, P, L, G)).2.2.1), (a3, aI cI 3 (cTick n nh S U V ns (KF 4) tk (F, P, L, G)).2.2.2)] H := by rw [show cTick n nh S U V ns (KF 4) tk (F, P, L, G) = (upd (cT5 ((cT4 (upd E 15 (cWay E (cPull F) (cDrag E P n (cGr S U ns (E 10)) (cGr S V ns (E 10)))))) 8) (cT4 (upd E 15 (cWay E (cPull F) (cDrag E P n (cGr S U ns (E 10)) (cGr S V ns (E 10))))))) 16 tk, (cSend (cT4 (upd E 15 (cWay E (cPull F) (cDrag E P n (cGr S U ns (E 10)) (cGr S V ns (E 10)))))) n (cMoveP (upd E 15 (cWay E (cPull F) (cDrag E P n (cGr S U ns (E 10)) (cGr S V ns (E 10))))) P n, L, G) nh).1, (cSend (cT4 (upd E 15 (cWay E (cPull F) (cDrag E P n (cGr S U ns (E 10)) (cGr S V ns (E 10)))))) n (cMoveP (upd E 15 (cWay E (cPull F) (cDrag E P n (cGr S U ns (E 10)) (cGr S V ns (E 10))))) P n, L, G) nh).2.1, (cSend (cT4 (upd E 15 (cWay E (cPull F) (cDrag E P n (cGr S U ns (E 10)) (cGr S V ns (E 10)))))) n (cMoveP (upd E 15 (cWay E (cPull F) (cDrag E P n (cGr S U ns (E 10)) (cGr S V ns (E 10))))) P n, L, G) nh).2.2) from by unfold cTick; rw [if_neg (by rw [cj]; decide), ← eE, if_neg c36]; exact Prod.ext (if_neg c98) rfl]; exact hP
        subst hAe
        exact W.vret hx hb hr (fun t ht hW => ⟨⟨(), rfl, trivial, by show va_P D vwCl _ t.heap; rw [ht]; exact hP9⟩, hS.F ht⟩) hS.2.2 dX0_passTick_106
    · skip
      refine lv_aload_n hx hb dX0_passTick_39 rfl (lv_at hl 1 rfl) ?_
      refine lv_dup hx hb dX0_passTick_40 rfl ?_
      refine va_get (D := D) (ci := 0) (v := .int (E 13)) (C := RX0) (T := TX0) (N := 20) hx hb hts hiX0 hown hK.1 hP 0 rfl rfl 13 (by decide) (hts (.fieldLink RX0 62 "SledgeRace$Team" "knotting" "I") (by decide +kernel)) (fun _ h9 => h9) rfl dX0_passTick_41 ?_
      refine lv_iconst (v := 1) hx hb dX0_passTick_44 (by decide) ?_
      refine lv_isub hx hb dX0_passTick_45 ?_
      refine va_put (D := D) (ci := 0) (v := .int ((E 13) - 1)) (ty := .int) (C := RX0) (T := TX0) (N := 20) hx hb hts hiX0 tyX0 tyX0_ok nmX0 hown hK.1 hP hD hS 0 rfl rfl 13 (by decide) (hts (.fieldLink RX0 62 "SledgeRace$Team" "knotting" "I") (by decide +kernel)) (fun _ h9 => h9) rfl (by decide +kernel) rfl rfl (Nat.le_of_ble_eq_true rfl) dX0_passTick_46 (fun H locs hP hD hS => ?_)
      have hP : va_P D vwCl [(a0, oT (upd E 13 ((E 13) - 1)) a1 a2 a3), (a1, aI cI 8 P), (a2, aI cI 3 L), (a3, aI cI 3 G)] H := hP
      have hD : va_D A [(a0, oT (upd E 13 ((E 13) - 1)) a1 a2 a3), (a1, aI cI 8 P), (a2, aI cI 3 L), (a3, aI cI 3 G)] := hD
      refine lv_aload_n hx hb dX0_passTick_49 rfl (lv_at hl 1 rfl) ?_
      refine lv_iconst (v := 0) hx hb dX0_passTick_50 (by decide) ?_
      refine va_put (D := D) (ci := 0) (v := .int 0) (ty := .int) (C := RX0) (T := TX0) (N := 20) hx hb hts hiX0 tyX0 tyX0_ok nmX0 hown hK.1 hP hD hS 0 rfl rfl 15 (by decide) (hts (.fieldLink RX0 68 "SledgeRace$Team" "way" "I") (by decide +kernel)) (fun _ h9 => h9) rfl (by decide +kernel) rfl rfl (Nat.le_of_ble_eq_true rfl) dX0_passTick_51 (fun H locs hP hD hS => ?_)
      have hP : va_P D vwCl [(a0, oT (upd (upd E 13 ((E 13) - 1)) 15 0) a1 a2 a3), (a1, aI cI 8 P), (a2, aI cI 3 L), (a3, aI cI 3 G)] H := hP
      have hD : va_D A [(a0, oT (upd (upd E 13 ((E 13) - 1)) 15 0) a1 a2 a3), (a1, aI cI 8 P), (a2, aI cI 3 L), (a3, aI cI 3 G)] := hD
      refine lv_aload_n hx hb dX0_passTick_54 rfl (lv_at hl 1 rfl) ?_
      refine lv_iconst (v := 0) hx hb dX0_passTick_55 (by decide) ?_
      refine sp_vV (rest := []) (As := [.int 0]) (W1 := [(a0, oT (cT5 0 (upd (upd E 13 ((E 13) - 1)) 15 0)) a1 a2 a3), (a1, aI cI 8 P), (a2, aI cI 3 L), (a3, aI cI 3 G)]) ⟨hx, hb, hml, hown, hts⟩ (mX0_breathe l D cI cT a0 a1 a2 a3 (upd (upd E 13 ((E 13) - 1)) 15 0) 0) (cwV 1 hts gX0_passTick_X0_breathe rfl rfl rfl (by decide +kernel) ⟨Nat.le_of_ble_eq_true rfl, Nat.le_of_ble_eq_true rfl⟩) hK hP hD hS [0] rfl (fun k q h => by simp at h) (sp_nsub hN [0] (by decide) rfl) rfl rfl rfl (ci := 0) rfl rfl rfl rfl hl.1 rfl (Nat.le_of_ble_eq_true rfl) dX0_passTick_56 ⟨Nat.le_of_ble_eq_true rfl, Nat.le_of_ble_eq_true rfl⟩ (fun H locs hP hD hS => ?_)
      subst hQ
      have hP9 : va_P D vwCl [(a0, oT (cTick n nh S U V ns (KF 4) tk (F, P, L, G)).1 a1 a2 a3), (a1, aI cI 8 (cTick n nh S U V ns (KF 4) tk (F, P, L, G)).2.1), (a2, aI cI 3 (cTick n nh S U V ns (KF 4) tk (F, P, L, G)).2.2.1), (a3, aI cI 3 (cTick n nh S U V ns (KF 4) tk (F, P, L, G)).2.2.2)] H := by rw [show cTick n nh S U V ns (KF 4) tk (F, P, L, G) = (cT5 0 (upd (upd E 13 ((E 13) - 1)) 15 0), P, L, G) from by unfold cTick; rw [if_neg (by rw [cj]; decide), ← eE, if_pos c36]; rfl]; exact hP
      subst hAe
      exact W.vret hx hb hr (fun t ht hW => ⟨⟨(), rfl, trivial, by show va_P D vwCl _ t.heap; rw [ht]; exact hP9⟩, hS.F ht⟩) hS.2.2 dX0_passTick_59
  obtain ⟨H, hH0⟩ : ∃ H, H = s.heap := ⟨_, rfl⟩
  obtain ⟨locs, hlo⟩ : ∃ L : List Loc, L = [] := ⟨_, rfl⟩
  have hP : va_P D vwCl [(a0, oT F a1 a2 a3), (a1, aI cI 8 P), (a2, aI cI 3 L), (a3, aI cI 3 G)] H := by rw [hH0]; exact hP
  have hS : va_S A s.heap H locs := by rw [hH0, hlo]; exact hS
  rw [show W p l e rmX0_passTick s m args below meth c s.heap [] 0 0 Q (F0 m 0 ls []) = W p l e rmX0_passTick s m args below meth c H locs 0 0 Q (F0 m 0 ls []) by rw [hH0, hlo]]
  clear hH0 hlo
  refine lv_aload_n hx hb dX0_passTick_0 rfl (lv_at hl 0 rfl) ?_
  refine sp_rV (rest := []) (As := []) ⟨hx, hb, hml, hown, hts⟩ (mX0_isAtEnd l D cI cT a0 a1 a2 a3 F ) (cwV 0 hts gX0_passTick_X0_isAtEnd rfl rfl rfl (by decide +kernel) ⟨Nat.le_of_ble_eq_true rfl, Nat.le_of_ble_eq_true rfl⟩) hK (sp_pick hP [0] rfl) (ci := 0) rfl rfl rfl rfl hl.1 rfl (Nat.le_of_ble_eq_true rfl) dX0_passTick_1 ⟨Nat.le_of_ble_eq_true rfl, Nat.le_of_ble_eq_true rfl⟩ ?_
  refine sp_if_eq (tgt := 8) hx hb dX0_passTick_4 (by decide) (fun c4 => ?_) (fun c4 => ?_)
  · skip
    refine lv_aload_n hx hb dX0_passTick_8 rfl (lv_at hl 0 rfl) ?_
    refine sp_rV (rest := []) (As := []) ⟨hx, hb, hml, hown, hts⟩ (mX0_pull l D cI cT a0 a1 a2 a3 F ) (cwV 0 hts gX0_passTick_X0_pull rfl rfl rfl (by decide +kernel) ⟨Nat.le_of_ble_eq_true rfl, Nat.le_of_ble_eq_true rfl⟩) hK (sp_pick hP [0] rfl) (ci := 0) rfl rfl rfl rfl hl.1 rfl (Nat.le_of_ble_eq_true rfl) dX0_passTick_9 ⟨Nat.le_of_ble_eq_true rfl, Nat.le_of_ble_eq_true rfl⟩ ?_
    refine lv_istore_n (lv' := [(3, .int (cPull F)), (0, .ref a0), (1, .int tk), (2, .ref k0)]) hx hb dX0_passTick_12 rfl hl (by decide) rfl (fun ls hl => ?_)
    refine lv_aload_n hx hb dX0_passTick_13 rfl (lv_at hl 1 rfl) ?_
    refine va_get (D := D) (ci := 0) (v := .int (F 13)) (C := RX0) (T := TX0) (N := 20) hx hb hts hiX0 hown hK.1 hP 0 rfl rfl 13 (by decide) (hts (.fieldLink RX0 62 "SledgeRace$Team" "knotting" "I") (by decide +kernel)) (fun _ h9 => h9) rfl dX0_passTick_14 ?_
    refine lv_if_ne (tgt := 32) hx hb dX0_passTick_17 (by decide) (fun c17 => ?_) (fun c17 => ?_)
    · skip
      exact join32 F (by unfold cSnap; rw [if_neg (fun q => c17 q.1)]) (h3) (h6) (c4) _ _ hP hD hS ls (lv_sub hl [0, 1, 2, 3] rfl)
    · skip
      refine lv_iload_n hx hb dX0_passTick_20 rfl (lv_at hl 0 rfl) ?_
      refine lv_aload_n hx hb dX0_passTick_21 rfl (lv_at hl 1 rfl) ?_
      refine va_get (D := D) (ci := 0) (v := .int (F 12)) (C := RX0) (T := TX0) (N := 20) hx hb hts hiX0 hown hK.1 hP 0 rfl rfl 12 (by decide) (hts (.fieldLink RX0 59 "SledgeRace$Team" "rope" "I") (by decide +kernel)) (fun _ h9 => h9) rfl dX0_passTick_22 ?_
      refine lx_icmp_le (tgt := 32) hx hb dX0_passTick_25 (by decide) (fun c25 => ?_) (fun c25 => ?_)
      · skip
        exact join32 F (by unfold cSnap; rw [if_neg (fun q => c25 q.2)]) (h3) (h6) (c4) _ _ hP hD hS ls (lv_sub hl [0, 1, 2, 3] rfl)
      · skip
        refine lv_aload_n hx hb dX0_passTick_28 rfl (lv_at hl 1 rfl) ?_
        refine sp_vV (rest := []) (As := []) (W1 := [(a0, oT (cSnapF F) a1 a2 a3), (a1, aI cI 8 P), (a2, aI cI 3 L), (a3, aI cI 3 G)]) ⟨hx, hb, hml, hown, hts⟩ (mX0_breakRope l D cI cT a0 a1 a2 a3 F ) (cwV 0 hts gX0_passTick_X0_breakRope rfl rfl rfl (by decide +kernel) ⟨Nat.le_of_ble_eq_true rfl, Nat.le_of_ble_eq_true rfl⟩) hK hP hD hS [0] rfl (fun k q h => by simp at h) (sp_nsub hN [0] (by decide) rfl) rfl rfl rfl (ci := 0) rfl rfl rfl rfl hl.1 rfl (Nat.le_of_ble_eq_true rfl) dX0_passTick_29 ⟨Nat.le_of_ble_eq_true rfl, Nat.le_of_ble_eq_true rfl⟩ (fun H locs hP hD hS => ?_)
        exact join32 (cSnapF F) (by unfold cSnap; rw [if_pos ⟨c17, c25⟩]) (h3) (h6) (c4) _ _ hP hD hS ls (lv_sub hl [0, 1, 2, 3] rfl)
  · skip
    subst hQ
    have hP9 : va_P D vwCl [(a0, oT (cTick n nh S U V ns (KF 4) tk (F, P, L, G)).1 a1 a2 a3), (a1, aI cI 8 (cTick n nh S U V ns (KF 4) tk (F, P, L, G)).2.1), (a2, aI cI 3 (cTick n nh S U V ns (KF 4) tk (F, P, L, G)).2.2.1), (a3, aI cI 3 (cTick n nh S U V ns (KF 4) tk (F, P, L, G)).2.2.2)] H := by rw [show cTick n nh S U V ns (KF 4) tk (F, P, L, G) = (F, P, L, G) from by unfold cTick; rw [if_pos c4]]; exact hP
    subst hAe
    exact W.vret hx hb hr (fun t ht hW => ⟨⟨(), rfl, trivial, by show va_P D vwCl _ t.heap; rw [ht]; exact hP9⟩, hS.F ht⟩) hS.2.2 dX0_passTick_7

abbrev rmX0_goToStart : Room := { frames := 0, cells := 0, slots := 0, locals := 0 }
set_option maxHeartbeats 4000000 in
set_option maxRecDepth 100000 in
/-- back to the start -/
theorem mX0_goToStart (l : Launch) (D : va_G) (cI cT : ClassId) (a0 a1 a2 a3 : Nat) (F P L G : Nat → Int32) (n : Nat) (hn : n ≤ 8) (h3 : F 3 = nI n) : MetV l D cI cT yX0_goToStart wsX0_goToStart rmX0_goToStart [.ref a0] [(a0, oT F a1 a2 a3), (a1, aI cI 8 P), (a2, aI cI 3 L), (a3, aI cI 3 G)] [] [(a0, oT (cStartF F) a1 a2 a3), (a1, aI cI 8 (cStartP F P n n)), (a2, aI cI 3 (cFill L (-1) 3)), (a3, aI cI 3 (cFill G 0 3))] := by
  refine Met.ofW (cc := cX0_goToStart) (maxL := 2) (ret := none) (by decide) rfl ?_
  intro p e s m args below meth c s₁ B hml hv
  obtain ⟨hargs, hP, hR0, hK, hN⟩ := hv
  have hx := B.exec
  have hb := B.bytes
  have hr := B.returns
  have hts := atoms_spec (ws := wsX0_goToStart) B.pre
  have hown : s.vm.findClass RX0 = some m.cls := findClass_of_methodNamed B.named
  have hlocks := B.notSynchronized
  have hiX0 : ∀ w ∈ u_ws RX0 TX0 20, w ∈ wsX0_goToStart := by decide +kernel
  have he : entryFrame m args 2 = F0 m 0 ((lg_sl [.ref a0] ++ List.replicate (2 - (lg_sl [.ref a0]).length) Slot.unset).toArray) [] := by rw [hargs]; exact lg_entry_eq m _ _
  rw [he]
  change W p l e rmX0_goToStart s m args below meth c s.heap [] 0 0 (MQ below (va_Qv (S := Unit) (fun _ => True) (fun _ t => va_P D vwCl [(a0, oT (cStartF F) a1 a2 a3), (a1, aI cI 8 (cStartP F P n n)), (a2, aI cI 3 (cFill L (-1) 3)), (a3, aI cI 3 (cFill G 0 3))] t.heap) (fr (List.map Prod.fst [(a0, oT F a1 a2 a3), (a1, aI cI 8 P), (a2, aI cI 3 L), (a3, aI cI 3 G)]))) args s 0 0 (fr (List.map Prod.fst [(a0, oT F a1 a2 a3), (a1, aI cI 8 P), (a2, aI cI 3 L), (a3, aI cI 3 G)]))) _
  obtain ⟨Q, hQ⟩ : ∃ Q, Q = MQ below (va_Qv (S := Unit) (fun _ => True) (fun _ t => va_P D vwCl [(a0, oT (cStartF F) a1 a2 a3), (a1, aI cI 8 (cStartP F P n n)), (a2, aI cI 3 (cFill L (-1) 3)), (a3, aI cI 3 (cFill G 0 3))] t.heap) (fr (List.map Prod.fst [(a0, oT F a1 a2 a3), (a1, aI cI 8 P), (a2, aI cI 3 L), (a3, aI cI 3 G)]))) args s 0 0 (fr (List.map Prod.fst [(a0, oT F a1 a2 a3), (a1, aI cI 8 P), (a2, aI cI 3 L), (a3, aI cI 3 G)])) := ⟨_, rfl⟩
  rw [← hQ]
  have hl := lv_entry [.ref a0] (n := 2) (Nat.le_of_ble_eq_true rfl)
  generalize (lg_sl [.ref a0] ++ List.replicate (2 - (lg_sl [.ref a0]).length) Slot.unset).toArray = ls at hl ⊢
  have hl : lv_has ls 2 [(0, .ref a0)] := hl
  obtain ⟨A, hAe⟩ : ∃ A, A = (fr (List.map Prod.fst [(a0, oT F a1 a2 a3), (a1, aI cI 8 P), (a2, aI cI 3 L), (a3, aI cI 3 G)])) := ⟨_, rfl⟩
  have hA0 : ∀ q ∈ List.map Prod.fst [(a0, oT F a1 a2 a3), (a1, aI cI 8 P), (a2, aI cI 3 L), (a3, aI cI 3 G)], A q := by rw [hAe]; exact fun q h => h
  have hD : va_D A [(a0, oT F a1 a2 a3), (a1, aI cI 8 P), (a2, aI cI 3 L), (a3, aI cI 3 G)] := sp_D (List.nodup_append.mp (show (([(a0, oT F a1 a2 a3), (a1, aI cI 8 P), (a2, aI cI 3 L), (a3, aI cI 3 G)] : va_W).map Prod.fst ++ ([] : va_W).map Prod.fst).Nodup by rw [← List.map_append]; exact hN)).1 hA0
  have hN : (List.map Prod.fst ([(a0, oT F a1 a2 a3), (a1, aI cI 8 P), (a2, aI cI 3 L), (a3, aI cI 3 G)] ++ []) : List Nat).Nodup := hN
  have hS : va_S A s.heap s.heap [] := va_S.rf
  obtain ⟨H, hH0⟩ : ∃ H, H = s.heap := ⟨_, rfl⟩
  obtain ⟨locs, hlo⟩ : ∃ L : List Loc, L = [] := ⟨_, rfl⟩
  have hP : va_P D vwCl [(a0, oT F a1 a2 a3), (a1, aI cI 8 P), (a2, aI cI 3 L), (a3, aI cI 3 G)] H := by rw [hH0]; exact hP
  have hS : va_S A s.heap H locs := by rw [hH0, hlo]; exact hS
  rw [show W p l e rmX0_goToStart s m args below meth c s.heap [] 0 0 Q (F0 m 0 ls []) = W p l e rmX0_goToStart s m args below meth c H locs 0 0 Q (F0 m 0 ls []) by rw [hH0, hlo]]
  clear hH0 hlo
  refine lv_aload_n hx hb dX0_goToStart_0 rfl (lv_at hl 0 rfl) ?_
  refine lv_iconst (v := 0) hx hb dX0_goToStart_1 (by decide) ?_
  refine va_put (D := D) (ci := 0) (v := .int 0) (ty := .int) (C := RX0) (T := TX0) (N := 20) hx hb hts hiX0 tyX0 tyX0_ok nmX0 hown hK.1 hP hD hS 0 rfl rfl 10 (by decide) (hts (.fieldLink RX0 53 "SledgeRace$Team" "front" "I") (by decide +kernel)) (fun _ h9 => h9) rfl (by decide +kernel) rfl rfl (Nat.le_of_ble_eq_true rfl) dX0_goToStart_2 (fun H locs hP hD hS => ?_)
  have hP : va_P D vwCl [(a0, oT (upd F 10 0) a1 a2 a3), (a1, aI cI 8 P), (a2, aI cI 3 L), (a3, aI cI 3 G)] H := hP
  have hD : va_D A [(a0, oT (upd F 10 0) a1 a2 a3), (a1, aI cI 8 P), (a2, aI cI 3 L), (a3, aI cI 3 G)] := hD
  refine lv_aload_n hx hb dX0_goToStart_5 rfl (lv_at hl 0 rfl) ?_
  refine lv_sipush (v := 1000) hx hb dX0_goToStart_6 (by decide) ?_
  refine va_put (D := D) (ci := 0) (v := .int 1000) (ty := .int) (C := RX0) (T := TX0) (N := 20) hx hb hts hiX0 tyX0 tyX0_ok nmX0 hown hK.1 hP hD hS 0 rfl rfl 11 (by decide) (hts (.fieldLink RX0 56 "SledgeRace$Team" "breath" "I") (by decide +kernel)) (fun _ h9 => h9) rfl (by decide +kernel) rfl rfl (Nat.le_of_ble_eq_true rfl) dX0_goToStart_9 (fun H locs hP hD hS => ?_)
  have hP : va_P D vwCl [(a0, oT (upd (upd F 10 0) 11 1000) a1 a2 a3), (a1, aI cI 8 P), (a2, aI cI 3 L), (a3, aI cI 3 G)] H := hP
  have hD : va_D A [(a0, oT (upd (upd F 10 0) 11 1000) a1 a2 a3), (a1, aI cI 8 P), (a2, aI cI 3 L), (a3, aI cI 3 G)] := hD
  refine lv_aload_n hx hb dX0_goToStart_12 rfl (lv_at hl 0 rfl) ?_
  refine lv_aload_n hx hb dX0_goToStart_13 rfl (lv_at hl 0 rfl) ?_
  refine va_get (D := D) (ci := 0) (v := .int (F 7)) (C := RX0) (T := TX0) (N := 20) hx hb hts hiX0 hown hK.1 hP 0 rfl rfl 7 (by decide) (hts (.fieldLink RX0 31 "SledgeRace$Team" "wholeRope" "I") (by decide +kernel)) (fun _ h9 => h9) rfl dX0_goToStart_14 ?_
  refine va_put (D := D) (ci := 0) (v := .int (F 7)) (ty := .int) (C := RX0) (T := TX0) (N := 20) hx hb hts hiX0 tyX0 tyX0_ok nmX0 hown hK.1 hP hD hS 0 rfl rfl 12 (by decide) (hts (.fieldLink RX0 59 "SledgeRace$Team" "rope" "I") (by decide +kernel)) (fun _ h9 => h9) rfl (by decide +kernel) rfl rfl (Nat.le_of_ble_eq_true rfl) dX0_goToStart_17 (fun H locs hP hD hS => ?_)
  have hP : va_P D vwCl [(a0, oT (upd (upd (upd F 10 0) 11 1000) 12 (F 7)) a1 a2 a3), (a1, aI cI 8 P), (a2, aI cI 3 L), (a3, aI cI 3 G)] H := hP
  have hD : va_D A [(a0, oT (upd (upd (upd F 10 0) 11 1000) 12 (F 7)) a1 a2 a3), (a1, aI cI 8 P), (a2, aI cI 3 L), (a3, aI cI 3 G)] := hD
  refine lv_aload_n hx hb dX0_goToStart_20 rfl (lv_at hl 0 rfl) ?_
  refine lv_iconst (v := 0) hx hb dX0_goToStart_21 (by decide) ?_
  refine va_put (D := D) (ci := 0) (v := .int 0) (ty := .int) (C := RX0) (T := TX0) (N := 20) hx hb hts hiX0 tyX0 tyX0_ok nmX0 hown hK.1 hP hD hS 0 rfl rfl 13 (by decide) (hts (.fieldLink RX0 62 "SledgeRace$Team" "knotting" "I") (by decide +kernel)) (fun _ h9 => h9) rfl (by decide +kernel) rfl rfl (Nat.le_of_ble_eq_true rfl) dX0_goToStart_22 (fun H locs hP hD hS => ?_)
  have hP : va_P D vwCl [(a0, oT (upd (upd (upd (upd F 10 0) 11 1000) 12 (F 7)) 13 0) a1 a2 a3), (a1, aI cI 8 P), (a2, aI cI 3 L), (a3, aI cI 3 G)] H := hP
  have hD : va_D A [(a0, oT (upd (upd (upd (upd F 10 0) 11 1000) 12 (F 7)) 13 0) a1 a2 a3), (a1, aI cI 8 P), (a2, aI cI 3 L), (a3, aI cI 3 G)] := hD
  refine lv_aload_n hx hb dX0_goToStart_25 rfl (lv_at hl 0 rfl) ?_
  refine lv_iconst (v := 0) hx hb dX0_goToStart_26 (by decide) ?_
  refine va_put (D := D) (ci := 0) (v := .int 0) (ty := .int) (C := RX0) (T := TX0) (N := 20) hx hb hts hiX0 tyX0 tyX0_ok nmX0 hown hK.1 hP hD hS 0 rfl rfl 14 (by decide) (hts (.fieldLink RX0 65 "SledgeRace$Team" "breaks" "I") (by decide +kernel)) (fun _ h9 => h9) rfl (by decide +kernel) rfl rfl (Nat.le_of_ble_eq_true rfl) dX0_goToStart_27 (fun H locs hP hD hS => ?_)
  have hP : va_P D vwCl [(a0, oT (upd (upd (upd (upd (upd F 10 0) 11 1000) 12 (F 7)) 13 0) 14 0) a1 a2 a3), (a1, aI cI 8 P), (a2, aI cI 3 L), (a3, aI cI 3 G)] H := hP
  have hD : va_D A [(a0, oT (upd (upd (upd (upd (upd F 10 0) 11 1000) 12 (F 7)) 13 0) 14 0) a1 a2 a3), (a1, aI cI 8 P), (a2, aI cI 3 L), (a3, aI cI 3 G)] := hD
  refine lv_aload_n hx hb dX0_goToStart_30 rfl (lv_at hl 0 rfl) ?_
  refine lv_iconst (v := 0) hx hb dX0_goToStart_31 (by decide) ?_
  refine va_put (D := D) (ci := 0) (v := .int 0) (ty := .int) (C := RX0) (T := TX0) (N := 20) hx hb hts hiX0 tyX0 tyX0_ok nmX0 hown hK.1 hP hD hS 0 rfl rfl 15 (by decide) (hts (.fieldLink RX0 68 "SledgeRace$Team" "way" "I") (by decide +kernel)) (fun _ h9 => h9) rfl (by decide +kernel) rfl rfl (Nat.le_of_ble_eq_true rfl) dX0_goToStart_32 (fun H locs hP hD hS => ?_)
  have hP : va_P D vwCl [(a0, oT (upd (upd (upd (upd (upd (upd F 10 0) 11 1000) 12 (F 7)) 13 0) 14 0) 15 0) a1 a2 a3), (a1, aI cI 8 P), (a2, aI cI 3 L), (a3, aI cI 3 G)] H := hP
  have hD : va_D A [(a0, oT (upd (upd (upd (upd (upd (upd F 10 0) 11 1000) 12 (F 7)) 13 0) 14 0) 15 0) a1 a2 a3), (a1, aI cI 8 P), (a2, aI cI 3 L), (a3, aI cI 3 G)] := hD
  refine lv_aload_n hx hb dX0_goToStart_35 rfl (lv_at hl 0 rfl) ?_
  refine lv_iconst (v := (-1)) hx hb dX0_goToStart_36 (by decide) ?_
  refine va_put (D := D) (ci := 0) (v := .int (-1)) (ty := .int) (C := RX0) (T := TX0) (N := 20) hx hb hts hiX0 tyX0 tyX0_ok nmX0 hown hK.1 hP hD hS 0 rfl rfl 16 (by decide) (hts (.fieldLink RX0 71 "SledgeRace$Team" "endTick" "I") (by decide +kernel)) (fun _ h9 => h9) rfl (by decide +kernel) rfl rfl (Nat.le_of_ble_eq_true rfl) dX0_goToStart_37 (fun H locs hP hD hS => ?_)
  have hP : va_P D vwCl [(a0, oT (upd (upd (upd (upd (upd (upd (upd F 10 0) 11 1000) 12 (F 7)) 13 0) 14 0) 15 0) 16 (-1)) a1 a2 a3), (a1, aI cI 8 P), (a2, aI cI 3 L), (a3, aI cI 3 G)] H := hP
  have hD : va_D A [(a0, oT (upd (upd (upd (upd (upd (upd (upd F 10 0) 11 1000) 12 (F 7)) 13 0) 14 0) 15 0) 16 (-1)) a1 a2 a3), (a1, aI cI 8 P), (a2, aI cI 3 L), (a3, aI cI 3 G)] := hD
  refine lv_iconst (v := nI 0) hx hb dX0_goToStart_40 (by decide) ?_
  refine lv_istore_n (lv' := [(1, .int (nI 0)), (0, .ref a0)]) hx hb dX0_goToStart_41 rfl hl (by decide) rfl (fun ls hl => ?_)
  have loop42 : ∀ (fu : Nat) (i : Nat), (n - i) < fu → (i ≤ n) → ∀ (H : Heap) (locs : List Loc), va_P D vwCl [(a0, oT (upd (upd (upd (upd (upd (upd (upd F 10 0) 11 1000) 12 (F 7)) 13 0) 14 0) 15 0) 16 (-1)) a1 a2 a3), (a1, aI cI 8 (cStartP F P n i)), (a2, aI cI 3 L), (a3, aI cI 3 G)] H → va_D A [(a0, oT (upd (upd (upd (upd (upd (upd (upd F 10 0) 11 1000) 12 (F 7)) 13 0) 14 0) 15 0) 16 (-1)) a1 a2 a3), (a1, aI cI 8 (cStartP F P n i)), (a2, aI cI 3 L), (a3, aI cI 3 G)] → va_S A s.heap H locs → ∀ (ls : Array Slot), lv_has ls 2 [(1, .int (nI i)), (0, .ref a0)] → W p l e rmX0_goToStart s m args below meth c H locs 0 0 Q (F0 m 42 ls []) := by
    intro fu
    induction fu with
    | zero => intro i hfu; exact absurd hfu (Nat.not_lt_zero _)
    | succ fu ih42 =>
      intro i hfu42 hi
      intro H locs hP hD hS ls hl
      refine lv_iload_n hx hb dX0_goToStart_42 rfl (lv_at hl 0 rfl) ?_
      refine lv_aload_n hx hb dX0_goToStart_43 rfl (lv_at hl 1 rfl) ?_
      refine va_get (D := D) (ci := 0) (v := .int (nI n)) (C := RX0) (T := TX0) (N := 20) hx hb hts hiX0 hown hK.1 hP 0 rfl rfl 3 (by decide) (hts (.fieldLink RX0 19 "SledgeRace$Team" "rollers" "I") (by decide +kernel)) (fun _ h9 => h9) (congrArg (fun z => some (Value.int z)) h3) dX0_goToStart_44 ?_
      refine sp_ge (by omega) (by omega) (tgt := 91) hx hb dX0_goToStart_47 (by decide) (fun c47 => ?_) (fun c47 => ?_)
      · skip
        refine lv_iconst (v := nI 0) hx hb dX0_goToStart_91 (by decide) ?_
        refine lv_istore_n (lv' := [(1, .int (nI 0)), (0, .ref a0)]) hx hb dX0_goToStart_92 rfl hl (by decide) rfl (fun ls hl => ?_)
        have loop93 : ∀ (fu : Nat) (j : Nat), (3 - j) < fu → (j ≤ 3) → ∀ (H : Heap) (locs : List Loc), va_P D vwCl [(a0, oT (upd (upd (upd (upd (upd (upd (upd F 10 0) 11 1000) 12 (F 7)) 13 0) 14 0) 15 0) 16 (-1)) a1 a2 a3), (a1, aI cI 8 (cStartP F P n n)), (a2, aI cI 3 (cFill L (-1) j)), (a3, aI cI 3 (cFill G 0 j))] H → va_D A [(a0, oT (upd (upd (upd (upd (upd (upd (upd F 10 0) 11 1000) 12 (F 7)) 13 0) 14 0) 15 0) 16 (-1)) a1 a2 a3), (a1, aI cI 8 (cStartP F P n n)), (a2, aI cI 3 (cFill L (-1) j)), (a3, aI cI 3 (cFill G 0 j))] → va_S A s.heap H locs → ∀ (ls : Array Slot), lv_has ls 2 [(1, .int (nI j)), (0, .ref a0)] → W p l e rmX0_goToStart s m args below meth c H locs 0 0 Q (F0 m 93 ls []) := by
          intro fu
          induction fu with
          | zero => intro j hfu; exact absurd hfu (Nat.not_lt_zero _)
          | succ fu ih93 =>
            intro j hfu93 hj
            intro H locs hP hD hS ls hl
            refine lv_iload_n hx hb dX0_goToStart_93 rfl (lv_at hl 0 rfl) ?_
            refine lv_aload_n hx hb dX0_goToStart_94 rfl (lv_at hl 1 rfl) ?_
            refine va_get (D := D) (ci := 0) (v := .ref a2) (C := RX0) (T := TX0) (N := 20) hx hb hts hiX0 hown hK.1 hP 0 rfl rfl 18 (by decide) (hts (.fieldLink RX0 44 "SledgeRace$Team" "loads" "[I") (by decide +kernel)) (fun _ h9 => h9) rfl dX0_goToStart_95 ?_
            refine va_alen hx hb hK.1 hP 2 0 rfl rfl (v := nI 3) rfl dX0_goToStart_98 ?_
            refine sp_ge (by omega) (by omega) (tgt := 131) hx hb dX0_goToStart_99 (by decide) (fun c99 => ?_) (fun c99 => ?_)
            · skip
              subst hQ
              have hP9 : va_P D vwCl [(a0, oT (cStartF F) a1 a2 a3), (a1, aI cI 8 (cStartP F P n n)), (a2, aI cI 3 (cFill L (-1) 3)), (a3, aI cI 3 (cFill G 0 3))] H := by have e3 : j = 3 := (by omega); subst e3; exact hP
              subst hAe
              exact W.vret hx hb hr (fun t ht hW => ⟨⟨(), rfl, trivial, by show va_P D vwCl _ t.heap; rw [ht]; exact hP9⟩, hS.F ht⟩) hS.2.2 dX0_goToStart_131
            · skip
              refine lv_iload_n hx hb dX0_goToStart_102 rfl (lv_at hl 0 rfl) ?_
              refine lv_aload_n hx hb dX0_goToStart_103 rfl (lv_at hl 1 rfl) ?_
              refine va_get (D := D) (ci := 0) (v := .ref a3) (C := RX0) (T := TX0) (N := 20) hx hb hts hiX0 hown hK.1 hP 0 rfl rfl 19 (by decide) (hts (.fieldLink RX0 47 "SledgeRace$Team" "ticksToGo" "[I") (by decide +kernel)) (fun _ h9 => h9) rfl dX0_goToStart_104 ?_
              refine va_alen hx hb hK.1 hP 3 0 rfl rfl (v := nI 3) rfl dX0_goToStart_107 ?_
              refine sp_ge (by omega) (by omega) (tgt := 131) hx hb dX0_goToStart_108 (by decide) (fun c108 => ?_) (fun c108 => ?_)
              · skip
                subst hQ
                have hP9 : va_P D vwCl [(a0, oT (cStartF F) a1 a2 a3), (a1, aI cI 8 (cStartP F P n n)), (a2, aI cI 3 (cFill L (-1) 3)), (a3, aI cI 3 (cFill G 0 3))] H := by have e3 : j = 3 := (by omega); subst e3; exact hP
                subst hAe
                exact W.vret hx hb hr (fun t ht hW => ⟨⟨(), rfl, trivial, by show va_P D vwCl _ t.heap; rw [ht]; exact hP9⟩, hS.F ht⟩) hS.2.2 dX0_goToStart_131
              · skip
                refine lv_aload_n hx hb dX0_goToStart_111 rfl (lv_at hl 1 rfl) ?_
                refine va_get (D := D) (ci := 0) (v := .ref a2) (C := RX0) (T := TX0) (N := 20) hx hb hts hiX0 hown hK.1 hP 0 rfl rfl 18 (by decide) (hts (.fieldLink RX0 44 "SledgeRace$Team" "loads" "[I") (by decide +kernel)) (fun _ h9 => h9) rfl dX0_goToStart_112 ?_
                refine lv_iload_n hx hb dX0_goToStart_115 rfl (lv_at hl 0 rfl) ?_
                refine lv_iconst (v := (-1)) hx hb dX0_goToStart_116 (by decide) ?_
                refine sp_iast hx hb hK.1 hP hD hS 2 0 rfl rfl (by omega) (by omega) dX0_goToStart_117 (fun H locs hP hD hS => ?_)
                have hP : va_P D vwCl [(a0, oT (upd (upd (upd (upd (upd (upd (upd F 10 0) 11 1000) 12 (F 7)) 13 0) 14 0) 15 0) 16 (-1)) a1 a2 a3), (a1, aI cI 8 (cStartP F P n n)), (a2, aI cI 3 (upd (cFill L (-1) j) j (-1))), (a3, aI cI 3 (cFill G 0 j))] H := hP
                have hD : va_D A [(a0, oT (upd (upd (upd (upd (upd (upd (upd F 10 0) 11 1000) 12 (F 7)) 13 0) 14 0) 15 0) 16 (-1)) a1 a2 a3), (a1, aI cI 8 (cStartP F P n n)), (a2, aI cI 3 (upd (cFill L (-1) j) j (-1))), (a3, aI cI 3 (cFill G 0 j))] := hD
                refine lv_aload_n hx hb dX0_goToStart_118 rfl (lv_at hl 1 rfl) ?_
                refine va_get (D := D) (ci := 0) (v := .ref a3) (C := RX0) (T := TX0) (N := 20) hx hb hts hiX0 hown hK.1 hP 0 rfl rfl 19 (by decide) (hts (.fieldLink RX0 47 "SledgeRace$Team" "ticksToGo" "[I") (by decide +kernel)) (fun _ h9 => h9) rfl dX0_goToStart_119 ?_
                refine lv_iload_n hx hb dX0_goToStart_122 rfl (lv_at hl 0 rfl) ?_
                refine lv_iconst (v := 0) hx hb dX0_goToStart_123 (by decide) ?_
                refine sp_iast hx hb hK.1 hP hD hS 3 0 rfl rfl (by omega) (by omega) dX0_goToStart_124 (fun H locs hP hD hS => ?_)
                have hP : va_P D vwCl [(a0, oT (upd (upd (upd (upd (upd (upd (upd F 10 0) 11 1000) 12 (F 7)) 13 0) 14 0) 15 0) 16 (-1)) a1 a2 a3), (a1, aI cI 8 (cStartP F P n n)), (a2, aI cI 3 (upd (cFill L (-1) j) j (-1))), (a3, aI cI 3 (upd (cFill G 0 j) j 0))] H := hP
                have hD : va_D A [(a0, oT (upd (upd (upd (upd (upd (upd (upd F 10 0) 11 1000) 12 (F 7)) 13 0) 14 0) 15 0) 16 (-1)) a1 a2 a3), (a1, aI cI 8 (cStartP F P n n)), (a2, aI cI 3 (upd (cFill L (-1) j) j (-1))), (a3, aI cI 3 (upd (cFill G 0 j) j 0))] := hD
                rw [upd_cFill, upd_cFill] at hP hD
                refine lv_iinc (v := nI (j + 1)) (lv' := [(1, .int (nI (j + 1))), (0, .ref a0)]) hx hb dX0_goToStart_125 hl (k := 0) rfl ((nI_1 j)) (by decide) rfl (fun ls hl => ?_)
                refine lv_goto (tgt := 93) hx hb dX0_goToStart_128 (by decide) ?_
                exact ih93 (j + 1) (by omega) (by omega) _ _ hP hD hS ls (lv_sub hl [0, 1] rfl)
        exact loop93 _ 0 (Nat.lt_succ_self _) (Nat.zero_le _) _ _ (by rw [cFill_0, cFill_0]; have en : i = n := (by omega); rw [en] at hP; exact hP) (by rw [cFill_0, cFill_0]; have en : i = n := (by omega); rw [en] at hD; exact hD) hS ls (lv_sub hl [0, 1] rfl)
      · skip
        refine lv_iload_n hx hb dX0_goToStart_50 rfl (lv_at hl 0 rfl) ?_
        refine lv_aload_n hx hb dX0_goToStart_51 rfl (lv_at hl 1 rfl) ?_
        refine va_get (D := D) (ci := 0) (v := .ref a1) (C := RX0) (T := TX0) (N := 20) hx hb hts hiX0 hown hK.1 hP 0 rfl rfl 17 (by decide) (hts (.fieldLink RX0 40 "SledgeRace$Team" "places" "[I") (by decide +kernel)) (fun _ h9 => h9) rfl dX0_goToStart_52 ?_
        refine va_alen hx hb hK.1 hP 1 0 rfl rfl (v := nI 8) rfl dX0_goToStart_55 ?_
        refine sp_ge (by omega) (by omega) (tgt := 91) hx hb dX0_goToStart_56 (by decide) (fun c56 => absurd c56 (by omega)) (fun _ => ?_)
        refine lv_aload_n hx hb dX0_goToStart_59 rfl (lv_at hl 1 rfl) ?_
        refine va_get (D := D) (ci := 0) (v := .ref a1) (C := RX0) (T := TX0) (N := 20) hx hb hts hiX0 hown hK.1 hP 0 rfl rfl 17 (by decide) (hts (.fieldLink RX0 40 "SledgeRace$Team" "places" "[I") (by decide +kernel)) (fun _ h9 => h9) rfl dX0_goToStart_60 ?_
        refine lv_iload_n hx hb dX0_goToStart_63 rfl (lv_at hl 0 rfl) ?_
        refine lv_aload_n hx hb dX0_goToStart_64 rfl (lv_at hl 1 rfl) ?_
        refine va_get (D := D) (ci := 0) (v := .int 0) (C := RX0) (T := TX0) (N := 20) hx hb hts hiX0 hown hK.1 hP 0 rfl rfl 10 (by decide) (hts (.fieldLink RX0 53 "SledgeRace$Team" "front" "I") (by decide +kernel)) (fun _ h9 => h9) rfl dX0_goToStart_65 ?_
        refine lv_iload_n hx hb dX0_goToStart_68 rfl (lv_at hl 0 rfl) ?_
        refine lv_iconst (v := 1) hx hb dX0_goToStart_69 (by decide) ?_
        refine lv_iadd hx hb dX0_goToStart_70 ?_
        refine sp_top (nI_1 i : (nI i) + 1 = nI (i + 1)) ?_
        refine lv_aload_n hx hb dX0_goToStart_71 rfl (lv_at hl 1 rfl) ?_
        refine va_get (D := D) (ci := 0) (v := .int (F 1)) (C := RX0) (T := TX0) (N := 20) hx hb hts hiX0 hown hK.1 hP 0 rfl rfl 1 (by decide) (hts (.fieldLink RX0 13 "SledgeRace$Team" "length" "I") (by decide +kernel)) (fun _ h9 => h9) rfl dX0_goToStart_72 ?_
        refine lv_imul hx hb dX0_goToStart_75 ?_
        refine lv_aload_n hx hb dX0_goToStart_76 rfl (lv_at hl 1 rfl) ?_
        refine va_get (D := D) (ci := 0) (v := .int (nI n)) (C := RX0) (T := TX0) (N := 20) hx hb hts hiX0 hown hK.1 hP 0 rfl rfl 3 (by decide) (hts (.fieldLink RX0 19 "SledgeRace$Team" "rollers" "I") (by decide +kernel)) (fun _ h9 => h9) (congrArg (fun z => some (Value.int z)) h3) dX0_goToStart_77 ?_
        refine lv_iconst (v := 1) hx hb dX0_goToStart_80 (by decide) ?_
        refine lv_iadd hx hb dX0_goToStart_81 ?_
        refine sp_top (nI_1 n : (nI n) + 1 = nI (n + 1)) ?_
        refine lv_idiv hx hb dX0_goToStart_82 (nI_ne0 (by omega) (by omega)) ?_
        refine lv_isub hx hb dX0_goToStart_83 ?_
        refine sp_iast hx hb hK.1 hP hD hS 1 0 rfl rfl (by omega) (by omega) dX0_goToStart_84 (fun H locs hP hD hS => ?_)
        have hP : va_P D vwCl [(a0, oT (upd (upd (upd (upd (upd (upd (upd F 10 0) 11 1000) 12 (F 7)) 13 0) 14 0) 15 0) 16 (-1)) a1 a2 a3), (a1, aI cI 8 (upd (cStartP F P n i) i (0 - (((nI (i + 1)) * (F 1)) / (nI (n + 1)))))), (a2, aI cI 3 L), (a3, aI cI 3 G)] H := hP
        have hD : va_D A [(a0, oT (upd (upd (upd (upd (upd (upd (upd F 10 0) 11 1000) 12 (F 7)) 13 0) 14 0) 15 0) 16 (-1)) a1 a2 a3), (a1, aI cI 8 (upd (cStartP F P n i) i (0 - (((nI (i + 1)) * (F 1)) / (nI (n + 1)))))), (a2, aI cI 3 L), (a3, aI cI 3 G)] := hD
        rw [upd_cStartP] at hP hD
        refine lv_iinc (v := nI (i + 1)) (lv' := [(1, .int (nI (i + 1))), (0, .ref a0)]) hx hb dX0_goToStart_85 hl (k := 0) rfl ((nI_1 i)) (by decide) rfl (fun ls hl => ?_)
        refine lv_goto (tgt := 42) hx hb dX0_goToStart_88 (by decide) ?_
        exact ih42 (i + 1) (by omega) (by omega) _ _ hP hD hS ls (lv_sub hl [0, 1] rfl)
  exact loop42 _ 0 (Nat.lt_succ_self _) (Nat.zero_le _) _ _ (by rw [cStartP_0]; exact hP) (by rw [cStartP_0]; exact hD) hS ls (lv_sub hl [0, 1] rfl)

abbrev rmX0_copyRow : Room := { frames := 0, cells := 0, slots := 0, locals := 0 }
set_option maxHeartbeats 4000000 in
set_option maxRecDepth 100000 in
/-- a row is copied -/
theorem mX0_copyRow (l : Launch) (D : va_G) (cI cT : ClassId) (x0 y0 : Nat) (f g : Nat → Int32) (N : Nat) (hN9 : N ≤ 8) : MetV l D cI cT yX0_copyRow wsX0_copyRow rmX0_copyRow [.ref x0, .ref y0] [(y0, aI cI N g)] [(x0, aI cI N f)] [(y0, aI cI N f)] := by
  refine Met.ofW (cc := cX0_copyRow) (maxL := 3) (ret := none) (by decide) rfl ?_
  intro p e s m args below meth c s₁ B hml hv
  obtain ⟨hargs, hP, hR0, hK, hN⟩ := hv
  have hx := B.exec
  have hb := B.bytes
  have hr := B.returns
  have hts := atoms_spec (ws := wsX0_copyRow) B.pre
  have hown : s.vm.findClass RX0 = some m.cls := findClass_of_methodNamed B.named
  have hlocks := B.notSynchronized
  have he : entryFrame m args 3 = F0 m 0 ((lg_sl [.ref x0, .ref y0] ++ List.replicate (3 - (lg_sl [.ref x0, .ref y0]).length) Slot.unset).toArray) [] := by rw [hargs]; exact lg_entry_eq m _ _
  rw [he]
  change W p l e rmX0_copyRow s m args below meth c s.heap [] 0 0 (MQ below (va_Qv (S := Unit) (fun _ => True) (fun _ t => va_P D vwCl [(y0, aI cI N f)] t.heap) (fr (List.map Prod.fst [(y0, aI cI N g)]))) args s 0 0 (fr (List.map Prod.fst [(y0, aI cI N g)]))) _
  obtain ⟨Q, hQ⟩ : ∃ Q, Q = MQ below (va_Qv (S := Unit) (fun _ => True) (fun _ t => va_P D vwCl [(y0, aI cI N f)] t.heap) (fr (List.map Prod.fst [(y0, aI cI N g)]))) args s 0 0 (fr (List.map Prod.fst [(y0, aI cI N g)])) := ⟨_, rfl⟩
  rw [← hQ]
  have hl := lv_entry [.ref x0, .ref y0] (n := 3) (Nat.le_of_ble_eq_true rfl)
  generalize (lg_sl [.ref x0, .ref y0] ++ List.replicate (3 - (lg_sl [.ref x0, .ref y0]).length) Slot.unset).toArray = ls at hl ⊢
  have hl : lv_has ls 3 [(0, .ref x0), (1, .ref y0)] := hl
  obtain ⟨A, hAe⟩ : ∃ A, A = (fr (List.map Prod.fst [(y0, aI cI N g)])) := ⟨_, rfl⟩
  have hA0 : ∀ q ∈ List.map Prod.fst [(y0, aI cI N g)], A q := by rw [hAe]; exact fun q h => h
  have hD : va_D A [(y0, aI cI N g)] := sp_D (List.nodup_append.mp (show (([(y0, aI cI N g)] : va_W).map Prod.fst ++ ([(x0, aI cI N f)] : va_W).map Prod.fst).Nodup by rw [← List.map_append]; exact hN)).1 hA0
  have hN : (List.map Prod.fst ([(y0, aI cI N g)] ++ [(x0, aI cI N f)]) : List Nat).Nodup := hN
  have hS : va_S A s.heap s.heap [] := va_S.rf
  have hR : ∀ (H : Heap) (locs : List Loc), va_S A s.heap H locs → va_P D vwCl [(x0, aI cI N f)] H := fun H locs hS => sp_ro hR0 (by rw [hAe]; exact sp_apart (show (([(y0, aI cI N g)] : va_W).map Prod.fst ++ ([(x0, aI cI N f)] : va_W).map Prod.fst).Nodup by rw [← List.map_append]; exact hN)) hS
  obtain ⟨H, hH0⟩ : ∃ H, H = s.heap := ⟨_, rfl⟩
  obtain ⟨locs, hlo⟩ : ∃ L : List Loc, L = [] := ⟨_, rfl⟩
  have hP : va_P D vwCl [(y0, aI cI N g)] H := by rw [hH0]; exact hP
  have hS : va_S A s.heap H locs := by rw [hH0, hlo]; exact hS
  rw [show W p l e rmX0_copyRow s m args below meth c s.heap [] 0 0 Q (F0 m 0 ls []) = W p l e rmX0_copyRow s m args below meth c H locs 0 0 Q (F0 m 0 ls []) by rw [hH0, hlo]]
  clear hH0 hlo
  refine lv_iconst (v := nI 0) hx hb dX0_copyRow_0 (by decide) ?_
  refine lv_istore_n (lv' := [(2, .int (nI 0)), (0, .ref x0), (1, .ref y0)]) hx hb dX0_copyRow_1 rfl hl (by decide) rfl (fun ls hl => ?_)
  have loop2 : ∀ (fu : Nat) (i : Nat), (N - i) < fu → (i ≤ N) → ∀ (H : Heap) (locs : List Loc), va_P D vwCl [(y0, aI cI N (cCopy f g i))] H → va_D A [(y0, aI cI N (cCopy f g i))] → va_S A s.heap H locs → ∀ (ls : Array Slot), lv_has ls 3 [(2, .int (nI i)), (0, .ref x0), (1, .ref y0)] → W p l e rmX0_copyRow s m args below meth c H locs 0 0 Q (F0 m 2 ls []) := by
    intro fu
    induction fu with
    | zero => intro i hfu; exact absurd hfu (Nat.not_lt_zero _)
    | succ fu ih2 =>
      intro i hfu2 hi
      intro H locs hP hD hS ls hl
      refine lv_iload_n hx hb dX0_copyRow_2 rfl (lv_at hl 0 rfl) ?_
      refine lv_aload_n hx hb dX0_copyRow_3 rfl (lv_at hl 1 rfl) ?_
      refine va_alen hx hb hK.1 (hR H locs hS) 0 0 rfl rfl (v := nI N) rfl dX0_copyRow_4 ?_
      refine sp_ge (by omega) (by omega) (tgt := 26) hx hb dX0_copyRow_5 (by decide) (fun c5 => ?_) (fun c5 => ?_)
      · skip
        subst hQ
        have hP9 : va_P D vwCl [(y0, aI cI N f)] H := sp_congr hP 0 rfl (fun j hj => by simp [cCopy, show j < i from by omega]) rfl
        subst hAe
        exact W.vret hx hb hr (fun t ht hW => ⟨⟨(), rfl, trivial, by show va_P D vwCl _ t.heap; rw [ht]; exact hP9⟩, hS.F ht⟩) hS.2.2 dX0_copyRow_26
      · skip
        refine lv_iload_n hx hb dX0_copyRow_8 rfl (lv_at hl 0 rfl) ?_
        refine lv_aload_n hx hb dX0_copyRow_9 rfl (lv_at hl 2 rfl) ?_
        refine va_alen hx hb hK.1 hP 0 0 rfl rfl (v := nI N) rfl dX0_copyRow_10 ?_
        refine sp_ge (by omega) (by omega) (tgt := 26) hx hb dX0_copyRow_11 (by decide) (fun c11 => absurd c11 (by omega)) (fun _ => ?_)
        refine lv_aload_n hx hb dX0_copyRow_14 rfl (lv_at hl 2 rfl) ?_
        refine lv_iload_n hx hb dX0_copyRow_15 rfl (lv_at hl 0 rfl) ?_
        refine lv_aload_n hx hb dX0_copyRow_16 rfl (lv_at hl 1 rfl) ?_
        refine lv_iload_n hx hb dX0_copyRow_17 rfl (lv_at hl 0 rfl) ?_
        refine sp_iald hx hb hK.1 (hR H locs hS) 0 0 rfl rfl (by omega) (by omega) dX0_copyRow_18 ?_
        refine sp_iast hx hb hK.1 hP hD hS 0 0 rfl rfl (by omega) (by omega) dX0_copyRow_19 (fun H locs hP hD hS => ?_)
        have hP : va_P D vwCl [(y0, aI cI N (upd (cCopy f g i) i (f i)))] H := hP
        have hD : va_D A [(y0, aI cI N (upd (cCopy f g i) i (f i)))] := hD
        rw [upd_cCopy] at hP hD
        refine lv_iinc (v := nI (i + 1)) (lv' := [(2, .int (nI (i + 1))), (0, .ref x0), (1, .ref y0)]) hx hb dX0_copyRow_20 hl (k := 0) rfl ((nI_1 i)) (by decide) rfl (fun ls hl => ?_)
        refine lv_goto (tgt := 2) hx hb dX0_copyRow_23 (by decide) ?_
        exact ih2 (i + 1) (by omega) (by omega) _ _ hP hD hS ls (lv_sub hl [0, 1, 2] rfl)
  exact loop2 _ 0 (Nat.lt_succ_self _) (Nat.zero_le _) _ _ (by rw [cCopy_0]; exact hP) (by rw [cCopy_0]; exact hD) hS ls (lv_sub hl [0, 1, 2] rfl)

abbrev rmX0_copyFrom : Room := { frames := 1, cells := 0, slots := 0, locals := 22 }
set_option maxHeartbeats 4000000 in
set_option maxRecDepth 100000 in
/-- a team is copied -/
theorem mX0_copyFrom (l : Launch) (D : va_G) (cI cT : ClassId) (a0 a1 a2 a3 b0 b1 b2 b3 : Nat) (F P L G E P2 L2 G2 : Nat → Int32) : MetV l D cI cT yX0_copyFrom wsX0_copyFrom rmX0_copyFrom [.ref a0, .ref b0] [(a0, oT F a1 a2 a3), (a1, aI cI 8 P), (a2, aI cI 3 L), (a3, aI cI 3 G)] [(b0, oT E b1 b2 b3), (b1, aI cI 8 P2), (b2, aI cI 3 L2), (b3, aI cI 3 G2)] [(a0, oT E a1 a2 a3), (a1, aI cI 8 P2), (a2, aI cI 3 L2), (a3, aI cI 3 G2)] := by
  refine Met.ofW (cc := cX0_copyFrom) (maxL := 2) (ret := none) (by decide) rfl ?_
  intro p e s m args below meth c s₁ B hml hv
  obtain ⟨hargs, hP, hR0, hK, hN⟩ := hv
  have hx := B.exec
  have hb := B.bytes
  have hr := B.returns
  have hts := atoms_spec (ws := wsX0_copyFrom) B.pre
  have hown : s.vm.findClass RX0 = some m.cls := findClass_of_methodNamed B.named
  have hlocks := B.notSynchronized
  have hiX0 : ∀ w ∈ u_ws RX0 TX0 20, w ∈ wsX0_copyFrom := by decide +kernel
  have he : entryFrame m args 2 = F0 m 0 ((lg_sl [.ref a0, .ref b0] ++ List.replicate (2 - (lg_sl [.ref a0, .ref b0]).length) Slot.unset).toArray) [] := by rw [hargs]; exact lg_entry_eq m _ _
  rw [he]
  change W p l e rmX0_copyFrom s m args below meth c s.heap [] 0 0 (MQ below (va_Qv (S := Unit) (fun _ => True) (fun _ t => va_P D vwCl [(a0, oT E a1 a2 a3), (a1, aI cI 8 P2), (a2, aI cI 3 L2), (a3, aI cI 3 G2)] t.heap) (fr (List.map Prod.fst [(a0, oT F a1 a2 a3), (a1, aI cI 8 P), (a2, aI cI 3 L), (a3, aI cI 3 G)]))) args s 0 0 (fr (List.map Prod.fst [(a0, oT F a1 a2 a3), (a1, aI cI 8 P), (a2, aI cI 3 L), (a3, aI cI 3 G)]))) _
  obtain ⟨Q, hQ⟩ : ∃ Q, Q = MQ below (va_Qv (S := Unit) (fun _ => True) (fun _ t => va_P D vwCl [(a0, oT E a1 a2 a3), (a1, aI cI 8 P2), (a2, aI cI 3 L2), (a3, aI cI 3 G2)] t.heap) (fr (List.map Prod.fst [(a0, oT F a1 a2 a3), (a1, aI cI 8 P), (a2, aI cI 3 L), (a3, aI cI 3 G)]))) args s 0 0 (fr (List.map Prod.fst [(a0, oT F a1 a2 a3), (a1, aI cI 8 P), (a2, aI cI 3 L), (a3, aI cI 3 G)])) := ⟨_, rfl⟩
  rw [← hQ]
  have hl := lv_entry [.ref a0, .ref b0] (n := 2) (Nat.le_of_ble_eq_true rfl)
  generalize (lg_sl [.ref a0, .ref b0] ++ List.replicate (2 - (lg_sl [.ref a0, .ref b0]).length) Slot.unset).toArray = ls at hl ⊢
  have hl : lv_has ls 2 [(0, .ref a0), (1, .ref b0)] := hl
  obtain ⟨A, hAe⟩ : ∃ A, A = (fr (List.map Prod.fst [(a0, oT F a1 a2 a3), (a1, aI cI 8 P), (a2, aI cI 3 L), (a3, aI cI 3 G)])) := ⟨_, rfl⟩
  have hA0 : ∀ q ∈ List.map Prod.fst [(a0, oT F a1 a2 a3), (a1, aI cI 8 P), (a2, aI cI 3 L), (a3, aI cI 3 G)], A q := by rw [hAe]; exact fun q h => h
  have hD : va_D A [(a0, oT F a1 a2 a3), (a1, aI cI 8 P), (a2, aI cI 3 L), (a3, aI cI 3 G)] := sp_D (List.nodup_append.mp (show (([(a0, oT F a1 a2 a3), (a1, aI cI 8 P), (a2, aI cI 3 L), (a3, aI cI 3 G)] : va_W).map Prod.fst ++ ([(b0, oT E b1 b2 b3), (b1, aI cI 8 P2), (b2, aI cI 3 L2), (b3, aI cI 3 G2)] : va_W).map Prod.fst).Nodup by rw [← List.map_append]; exact hN)).1 hA0
  have hN : (List.map Prod.fst ([(a0, oT F a1 a2 a3), (a1, aI cI 8 P), (a2, aI cI 3 L), (a3, aI cI 3 G)] ++ [(b0, oT E b1 b2 b3), (b1, aI cI 8 P2), (b2, aI cI 3 L2), (b3, aI cI 3 G2)]) : List Nat).Nodup := hN
  have hS : va_S A s.heap s.heap [] := va_S.rf
  have hR : ∀ (H : Heap) (locs : List Loc), va_S A s.heap H locs → va_P D vwCl [(b0, oT E b1 b2 b3), (b1, aI cI 8 P2), (b2, aI cI 3 L2), (b3, aI cI 3 G2)] H := fun H locs hS => sp_ro hR0 (by rw [hAe]; exact sp_apart (show (([(a0, oT F a1 a2 a3), (a1, aI cI 8 P), (a2, aI cI 3 L), (a3, aI cI 3 G)] : va_W).map Prod.fst ++ ([(b0, oT E b1 b2 b3), (b1, aI cI 8 P2), (b2, aI cI 3 L2), (b3, aI cI 3 G2)] : va_W).map Prod.fst).Nodup by rw [← List.map_append]; exact hN)) hS
  obtain ⟨H, hH0⟩ : ∃ H, H = s.heap := ⟨_, rfl⟩
  obtain ⟨locs, hlo⟩ : ∃ L : List Loc, L = [] := ⟨_, rfl⟩
  have hP : va_P D vwCl [(a0, oT F a1 a2 a3), (a1, aI cI 8 P), (a2, aI cI 3 L), (a3, aI cI 3 G)] H := by rw [hH0]; exact hP
  have hS : va_S A s.heap H locs := by rw [hH0, hlo]; exact hS
  rw [show W p l e rmX0_copyFrom s m args below meth c s.heap [] 0 0 Q (F0 m 0 ls []) = W p l e rmX0_copyFrom s m args below meth c H locs 0 0 Q (F0 m 0 ls []) by rw [hH0, hlo]]
  clear hH0 hlo
  refine lv_aload_n hx hb dX0_copyFrom_0 rfl (lv_at hl 0 rfl) ?_
  refine lv_aload_n hx hb dX0_copyFrom_1 rfl (lv_at hl 1 rfl) ?_
  refine va_get (D := D) (ci := 0) (v := .int (E 0)) (C := RX0) (T := TX0) (N := 20) hx hb hts hiX0 hown hK.1 (hR H locs hS) 0 rfl rfl 0 (by decide) (hts (.fieldLink RX0 7 "SledgeRace$Team" "number" "I") (by decide +kernel)) (fun _ h9 => h9) rfl dX0_copyFrom_2 ?_
  refine va_put (D := D) (ci := 0) (v := .int (E 0)) (ty := .int) (C := RX0) (T := TX0) (N := 20) hx hb hts hiX0 tyX0 tyX0_ok nmX0 hown hK.1 hP hD hS 0 rfl rfl 0 (by decide) (hts (.fieldLink RX0 7 "SledgeRace$Team" "number" "I") (by decide +kernel)) (fun _ h9 => h9) rfl (by decide +kernel) rfl rfl (Nat.le_of_ble_eq_true rfl) dX0_copyFrom_5 (fun H locs hP hD hS => ?_)
  have hP : va_P D vwCl [(a0, oT (upd F 0 (E 0)) a1 a2 a3), (a1, aI cI 8 P), (a2, aI cI 3 L), (a3, aI cI 3 G)] H := hP
  have hD : va_D A [(a0, oT (upd F 0 (E 0)) a1 a2 a3), (a1, aI cI 8 P), (a2, aI cI 3 L), (a3, aI cI 3 G)] := hD
  refine lv_aload_n hx hb dX0_copyFrom_8 rfl (lv_at hl 0 rfl) ?_
  refine lv_aload_n hx hb dX0_copyFrom_9 rfl (lv_at hl 1 rfl) ?_
  refine va_get (D := D) (ci := 0) (v := .int (E 1)) (C := RX0) (T := TX0) (N := 20) hx hb hts hiX0 hown hK.1 (hR H locs hS) 0 rfl rfl 1 (by decide) (hts (.fieldLink RX0 13 "SledgeRace$Team" "length" "I") (by decide +kernel)) (fun _ h9 => h9) rfl dX0_copyFrom_10 ?_
  refine va_put (D := D) (ci := 0) (v := .int (E 1)) (ty := .int) (C := RX0) (T := TX0) (N := 20) hx hb hts hiX0 tyX0 tyX0_ok nmX0 hown hK.1 hP hD hS 0 rfl rfl 1 (by decide) (hts (.fieldLink RX0 13 "SledgeRace$Team" "length" "I") (by decide +kernel)) (fun _ h9 => h9) rfl (by decide +kernel) rfl rfl (Nat.le_of_ble_eq_true rfl) dX0_copyFrom_13 (fun H locs hP hD hS => ?_)
  have hP : va_P D vwCl [(a0, oT (upd (upd F 0 (E 0)) 1 (E 1)) a1 a2 a3), (a1, aI cI 8 P), (a2, aI cI 3 L), (a3, aI cI 3 G)] H := hP
  have hD : va_D A [(a0, oT (upd (upd F 0 (E 0)) 1 (E 1)) a1 a2 a3), (a1, aI cI 8 P), (a2, aI cI 3 L), (a3, aI cI 3 G)] := hD
  refine lv_aload_n hx hb dX0_copyFrom_16 rfl (lv_at hl 0 rfl) ?_
  refine lv_aload_n hx hb dX0_copyFrom_17 rfl (lv_at hl 1 rfl) ?_
  refine va_get (D := D) (ci := 0) (v := .int (E 2)) (C := RX0) (T := TX0) (N := 20) hx hb hts hiX0 hown hK.1 (hR H locs hS) 0 rfl rfl 2 (by decide) (hts (.fieldLink RX0 16 "SledgeRace$Team" "weight" "I") (by decide +kernel)) (fun _ h9 => h9) rfl dX0_copyFrom_18 ?_
  refine va_put (D := D) (ci := 0) (v := .int (E 2)) (ty := .int) (C := RX0) (T := TX0) (N := 20) hx hb hts hiX0 tyX0 tyX0_ok nmX0 hown hK.1 hP hD hS 0 rfl rfl 2 (by decide) (hts (.fieldLink RX0 16 "SledgeRace$Team" "weight" "I") (by decide +kernel)) (fun _ h9 => h9) rfl (by decide +kernel) rfl rfl (Nat.le_of_ble_eq_true rfl) dX0_copyFrom_21 (fun H locs hP hD hS => ?_)
  have hP : va_P D vwCl [(a0, oT (upd (upd (upd F 0 (E 0)) 1 (E 1)) 2 (E 2)) a1 a2 a3), (a1, aI cI 8 P), (a2, aI cI 3 L), (a3, aI cI 3 G)] H := hP
  have hD : va_D A [(a0, oT (upd (upd (upd F 0 (E 0)) 1 (E 1)) 2 (E 2)) a1 a2 a3), (a1, aI cI 8 P), (a2, aI cI 3 L), (a3, aI cI 3 G)] := hD
  refine lv_aload_n hx hb dX0_copyFrom_24 rfl (lv_at hl 0 rfl) ?_
  refine lv_aload_n hx hb dX0_copyFrom_25 rfl (lv_at hl 1 rfl) ?_
  refine va_get (D := D) (ci := 0) (v := .int (E 3)) (C := RX0) (T := TX0) (N := 20) hx hb hts hiX0 hown hK.1 (hR H locs hS) 0 rfl rfl 3 (by decide) (hts (.fieldLink RX0 19 "SledgeRace$Team" "rollers" "I") (by decide +kernel)) (fun _ h9 => h9) rfl dX0_copyFrom_26 ?_
  refine va_put (D := D) (ci := 0) (v := .int (E 3)) (ty := .int) (C := RX0) (T := TX0) (N := 20) hx hb hts hiX0 tyX0 tyX0_ok nmX0 hown hK.1 hP hD hS 0 rfl rfl 3 (by decide) (hts (.fieldLink RX0 19 "SledgeRace$Team" "rollers" "I") (by decide +kernel)) (fun _ h9 => h9) rfl (by decide +kernel) rfl rfl (Nat.le_of_ble_eq_true rfl) dX0_copyFrom_29 (fun H locs hP hD hS => ?_)
  have hP : va_P D vwCl [(a0, oT (upd (upd (upd (upd F 0 (E 0)) 1 (E 1)) 2 (E 2)) 3 (E 3)) a1 a2 a3), (a1, aI cI 8 P), (a2, aI cI 3 L), (a3, aI cI 3 G)] H := hP
  have hD : va_D A [(a0, oT (upd (upd (upd (upd F 0 (E 0)) 1 (E 1)) 2 (E 2)) 3 (E 3)) a1 a2 a3), (a1, aI cI 8 P), (a2, aI cI 3 L), (a3, aI cI 3 G)] := hD
  refine lv_aload_n hx hb dX0_copyFrom_32 rfl (lv_at hl 0 rfl) ?_
  refine lv_aload_n hx hb dX0_copyFrom_33 rfl (lv_at hl 1 rfl) ?_
  refine va_get (D := D) (ci := 0) (v := .int (E 4)) (C := RX0) (T := TX0) (N := 20) hx hb hts hiX0 hown hK.1 (hR H locs hS) 0 rfl rfl 4 (by decide) (hts (.fieldLink RX0 22 "SledgeRace$Team" "pullers" "I") (by decide +kernel)) (fun _ h9 => h9) rfl dX0_copyFrom_34 ?_
  refine va_put (D := D) (ci := 0) (v := .int (E 4)) (ty := .int) (C := RX0) (T := TX0) (N := 20) hx hb hts hiX0 tyX0 tyX0_ok nmX0 hown hK.1 hP hD hS 0 rfl rfl 4 (by decide) (hts (.fieldLink RX0 22 "SledgeRace$Team" "pullers" "I") (by decide +kernel)) (fun _ h9 => h9) rfl (by decide +kernel) rfl rfl (Nat.le_of_ble_eq_true rfl) dX0_copyFrom_37 (fun H locs hP hD hS => ?_)
  have hP : va_P D vwCl [(a0, oT (upd (upd (upd (upd (upd F 0 (E 0)) 1 (E 1)) 2 (E 2)) 3 (E 3)) 4 (E 4)) a1 a2 a3), (a1, aI cI 8 P), (a2, aI cI 3 L), (a3, aI cI 3 G)] H := hP
  have hD : va_D A [(a0, oT (upd (upd (upd (upd (upd F 0 (E 0)) 1 (E 1)) 2 (E 2)) 3 (E 3)) 4 (E 4)) a1 a2 a3), (a1, aI cI 8 P), (a2, aI cI 3 L), (a3, aI cI 3 G)] := hD
  refine lv_aload_n hx hb dX0_copyFrom_40 rfl (lv_at hl 0 rfl) ?_
  refine lv_aload_n hx hb dX0_copyFrom_41 rfl (lv_at hl 1 rfl) ?_
  refine va_get (D := D) (ci := 0) (v := .int (E 5)) (C := RX0) (T := TX0) (N := 20) hx hb hts hiX0 hown hK.1 (hR H locs hS) 0 rfl rfl 5 (by decide) (hts (.fieldLink RX0 25 "SledgeRace$Team" "strength" "I") (by decide +kernel)) (fun _ h9 => h9) rfl dX0_copyFrom_42 ?_
  refine va_put (D := D) (ci := 0) (v := .int (E 5)) (ty := .int) (C := RX0) (T := TX0) (N := 20) hx hb hts hiX0 tyX0 tyX0_ok nmX0 hown hK.1 hP hD hS 0 rfl rfl 5 (by decide) (hts (.fieldLink RX0 25 "SledgeRace$Team" "strength" "I") (by decide +kernel)) (fun _ h9 => h9) rfl (by decide +kernel) rfl rfl (Nat.le_of_ble_eq_true rfl) dX0_copyFrom_45 (fun H locs hP hD hS => ?_)
  have hP : va_P D vwCl [(a0, oT (upd (upd (upd (upd (upd (upd F 0 (E 0)) 1 (E 1)) 2 (E 2)) 3 (E 3)) 4 (E 4)) 5 (E 5)) a1 a2 a3), (a1, aI cI 8 P), (a2, aI cI 3 L), (a3, aI cI 3 G)] H := hP
  have hD : va_D A [(a0, oT (upd (upd (upd (upd (upd (upd F 0 (E 0)) 1 (E 1)) 2 (E 2)) 3 (E 3)) 4 (E 4)) 5 (E 5)) a1 a2 a3), (a1, aI cI 8 P), (a2, aI cI 3 L), (a3, aI cI 3 G)] := hD
  refine lv_aload_n hx hb dX0_copyFrom_48 rfl (lv_at hl 0 rfl) ?_
  refine lv_aload_n hx hb dX0_copyFrom_49 rfl (lv_at hl 1 rfl) ?_
  refine va_get (D := D) (ci := 0) (v := .int (E 6)) (C := RX0) (T := TX0) (N := 20) hx hb hts hiX0 hown hK.1 (hR H locs hS) 0 rfl rfl 6 (by decide) (hts (.fieldLink RX0 28 "SledgeRace$Team" "runners" "I") (by decide +kernel)) (fun _ h9 => h9) rfl dX0_copyFrom_50 ?_
  refine va_put (D := D) (ci := 0) (v := .int (E 6)) (ty := .int) (C := RX0) (T := TX0) (N := 20) hx hb hts hiX0 tyX0 tyX0_ok nmX0 hown hK.1 hP hD hS 0 rfl rfl 6 (by decide) (hts (.fieldLink RX0 28 "SledgeRace$Team" "runners" "I") (by decide +kernel)) (fun _ h9 => h9) rfl (by decide +kernel) rfl rfl (Nat.le_of_ble_eq_true rfl) dX0_copyFrom_53 (fun H locs hP hD hS => ?_)
  have hP : va_P D vwCl [(a0, oT (upd (upd (upd (upd (upd (upd (upd F 0 (E 0)) 1 (E 1)) 2 (E 2)) 3 (E 3)) 4 (E 4)) 5 (E 5)) 6 (E 6)) a1 a2 a3), (a1, aI cI 8 P), (a2, aI cI 3 L), (a3, aI cI 3 G)] H := hP
  have hD : va_D A [(a0, oT (upd (upd (upd (upd (upd (upd (upd F 0 (E 0)) 1 (E 1)) 2 (E 2)) 3 (E 3)) 4 (E 4)) 5 (E 5)) 6 (E 6)) a1 a2 a3), (a1, aI cI 8 P), (a2, aI cI 3 L), (a3, aI cI 3 G)] := hD
  refine lv_aload_n hx hb dX0_copyFrom_56 rfl (lv_at hl 0 rfl) ?_
  refine lv_aload_n hx hb dX0_copyFrom_57 rfl (lv_at hl 1 rfl) ?_
  refine va_get (D := D) (ci := 0) (v := .int (E 7)) (C := RX0) (T := TX0) (N := 20) hx hb hts hiX0 hown hK.1 (hR H locs hS) 0 rfl rfl 7 (by decide) (hts (.fieldLink RX0 31 "SledgeRace$Team" "wholeRope" "I") (by decide +kernel)) (fun _ h9 => h9) rfl dX0_copyFrom_58 ?_
  refine va_put (D := D) (ci := 0) (v := .int (E 7)) (ty := .int) (C := RX0) (T := TX0) (N := 20) hx hb hts hiX0 tyX0 tyX0_ok nmX0 hown hK.1 hP hD hS 0 rfl rfl 7 (by decide) (hts (.fieldLink RX0 31 "SledgeRace$Team" "wholeRope" "I") (by decide +kernel)) (fun _ h9 => h9) rfl (by decide +kernel) rfl rfl (Nat.le_of_ble_eq_true rfl) dX0_copyFrom_61 (fun H locs hP hD hS => ?_)
  have hP : va_P D vwCl [(a0, oT (upd (upd (upd (upd (upd (upd (upd (upd F 0 (E 0)) 1 (E 1)) 2 (E 2)) 3 (E 3)) 4 (E 4)) 5 (E 5)) 6 (E 6)) 7 (E 7)) a1 a2 a3), (a1, aI cI 8 P), (a2, aI cI 3 L), (a3, aI cI 3 G)] H := hP
  have hD : va_D A [(a0, oT (upd (upd (upd (upd (upd (upd (upd (upd F 0 (E 0)) 1 (E 1)) 2 (E 2)) 3 (E 3)) 4 (E 4)) 5 (E 5)) 6 (E 6)) 7 (E 7)) a1 a2 a3), (a1, aI cI 8 P), (a2, aI cI 3 L), (a3, aI cI 3 G)] := hD
  refine lv_aload_n hx hb dX0_copyFrom_64 rfl (lv_at hl 0 rfl) ?_
  refine lv_aload_n hx hb dX0_copyFrom_65 rfl (lv_at hl 1 rfl) ?_
  refine va_get (D := D) (ci := 0) (v := .int (E 8)) (C := RX0) (T := TX0) (N := 20) hx hb hts hiX0 hown hK.1 (hR H locs hS) 0 rfl rfl 8 (by decide) (hts (.fieldLink RX0 34 "SledgeRace$Team" "effort" "I") (by decide +kernel)) (fun _ h9 => h9) rfl dX0_copyFrom_66 ?_
  refine va_put (D := D) (ci := 0) (v := .int (E 8)) (ty := .int) (C := RX0) (T := TX0) (N := 20) hx hb hts hiX0 tyX0 tyX0_ok nmX0 hown hK.1 hP hD hS 0 rfl rfl 8 (by decide) (hts (.fieldLink RX0 34 "SledgeRace$Team" "effort" "I") (by decide +kernel)) (fun _ h9 => h9) rfl (by decide +kernel) rfl rfl (Nat.le_of_ble_eq_true rfl) dX0_copyFrom_69 (fun H locs hP hD hS => ?_)
  have hP : va_P D vwCl [(a0, oT (upd (upd (upd (upd (upd (upd (upd (upd (upd F 0 (E 0)) 1 (E 1)) 2 (E 2)) 3 (E 3)) 4 (E 4)) 5 (E 5)) 6 (E 6)) 7 (E 7)) 8 (E 8)) a1 a2 a3), (a1, aI cI 8 P), (a2, aI cI 3 L), (a3, aI cI 3 G)] H := hP
  have hD : va_D A [(a0, oT (upd (upd (upd (upd (upd (upd (upd (upd (upd F 0 (E 0)) 1 (E 1)) 2 (E 2)) 3 (E 3)) 4 (E 4)) 5 (E 5)) 6 (E 6)) 7 (E 7)) 8 (E 8)) a1 a2 a3), (a1, aI cI 8 P), (a2, aI cI 3 L), (a3, aI cI 3 G)] := hD
  refine lv_aload_n hx hb dX0_copyFrom_72 rfl (lv_at hl 0 rfl) ?_
  refine lv_aload_n hx hb dX0_copyFrom_73 rfl (lv_at hl 1 rfl) ?_
  refine va_get (D := D) (ci := 0) (v := .int (E 9)) (C := RX0) (T := TX0) (N := 20) hx hb hts hiX0 hown hK.1 (hR H locs hS) 0 rfl rfl 9 (by decide) (hts (.fieldLink RX0 37 "SledgeRace$Team" "gap" "I") (by decide +kernel)) (fun _ h9 => h9) rfl dX0_copyFrom_74 ?_
  refine va_put (D := D) (ci := 0) (v := .int (E 9)) (ty := .int) (C := RX0) (T := TX0) (N := 20) hx hb hts hiX0 tyX0 tyX0_ok nmX0 hown hK.1 hP hD hS 0 rfl rfl 9 (by decide) (hts (.fieldLink RX0 37 "SledgeRace$Team" "gap" "I") (by decide +kernel)) (fun _ h9 => h9) rfl (by decide +kernel) rfl rfl (Nat.le_of_ble_eq_true rfl) dX0_copyFrom_77 (fun H locs hP hD hS => ?_)
  have hP : va_P D vwCl [(a0, oT (upd (upd (upd (upd (upd (upd (upd (upd (upd (upd F 0 (E 0)) 1 (E 1)) 2 (E 2)) 3 (E 3)) 4 (E 4)) 5 (E 5)) 6 (E 6)) 7 (E 7)) 8 (E 8)) 9 (E 9)) a1 a2 a3), (a1, aI cI 8 P), (a2, aI cI 3 L), (a3, aI cI 3 G)] H := hP
  have hD : va_D A [(a0, oT (upd (upd (upd (upd (upd (upd (upd (upd (upd (upd F 0 (E 0)) 1 (E 1)) 2 (E 2)) 3 (E 3)) 4 (E 4)) 5 (E 5)) 6 (E 6)) 7 (E 7)) 8 (E 8)) 9 (E 9)) a1 a2 a3), (a1, aI cI 8 P), (a2, aI cI 3 L), (a3, aI cI 3 G)] := hD
  refine lv_aload_n hx hb dX0_copyFrom_80 rfl (lv_at hl 0 rfl) ?_
  refine lv_aload_n hx hb dX0_copyFrom_81 rfl (lv_at hl 1 rfl) ?_
  refine va_get (D := D) (ci := 0) (v := .int (E 10)) (C := RX0) (T := TX0) (N := 20) hx hb hts hiX0 hown hK.1 (hR H locs hS) 0 rfl rfl 10 (by decide) (hts (.fieldLink RX0 53 "SledgeRace$Team" "front" "I") (by decide +kernel)) (fun _ h9 => h9) rfl dX0_copyFrom_82 ?_
  refine va_put (D := D) (ci := 0) (v := .int (E 10)) (ty := .int) (C := RX0) (T := TX0) (N := 20) hx hb hts hiX0 tyX0 tyX0_ok nmX0 hown hK.1 hP hD hS 0 rfl rfl 10 (by decide) (hts (.fieldLink RX0 53 "SledgeRace$Team" "front" "I") (by decide +kernel)) (fun _ h9 => h9) rfl (by decide +kernel) rfl rfl (Nat.le_of_ble_eq_true rfl) dX0_copyFrom_85 (fun H locs hP hD hS => ?_)
  have hP : va_P D vwCl [(a0, oT (upd (upd (upd (upd (upd (upd (upd (upd (upd (upd (upd F 0 (E 0)) 1 (E 1)) 2 (E 2)) 3 (E 3)) 4 (E 4)) 5 (E 5)) 6 (E 6)) 7 (E 7)) 8 (E 8)) 9 (E 9)) 10 (E 10)) a1 a2 a3), (a1, aI cI 8 P), (a2, aI cI 3 L), (a3, aI cI 3 G)] H := hP
  have hD : va_D A [(a0, oT (upd (upd (upd (upd (upd (upd (upd (upd (upd (upd (upd F 0 (E 0)) 1 (E 1)) 2 (E 2)) 3 (E 3)) 4 (E 4)) 5 (E 5)) 6 (E 6)) 7 (E 7)) 8 (E 8)) 9 (E 9)) 10 (E 10)) a1 a2 a3), (a1, aI cI 8 P), (a2, aI cI 3 L), (a3, aI cI 3 G)] := hD
  refine lv_aload_n hx hb dX0_copyFrom_88 rfl (lv_at hl 0 rfl) ?_
  refine lv_aload_n hx hb dX0_copyFrom_89 rfl (lv_at hl 1 rfl) ?_
  refine va_get (D := D) (ci := 0) (v := .int (E 11)) (C := RX0) (T := TX0) (N := 20) hx hb hts hiX0 hown hK.1 (hR H locs hS) 0 rfl rfl 11 (by decide) (hts (.fieldLink RX0 56 "SledgeRace$Team" "breath" "I") (by decide +kernel)) (fun _ h9 => h9) rfl dX0_copyFrom_90 ?_
  refine va_put (D := D) (ci := 0) (v := .int (E 11)) (ty := .int) (C := RX0) (T := TX0) (N := 20) hx hb hts hiX0 tyX0 tyX0_ok nmX0 hown hK.1 hP hD hS 0 rfl rfl 11 (by decide) (hts (.fieldLink RX0 56 "SledgeRace$Team" "breath" "I") (by decide +kernel)) (fun _ h9 => h9) rfl (by decide +kernel) rfl rfl (Nat.le_of_ble_eq_true rfl) dX0_copyFrom_93 (fun H locs hP hD hS => ?_)
  have hP : va_P D vwCl [(a0, oT (upd (upd (upd (upd (upd (upd (upd (upd (upd (upd (upd (upd F 0 (E 0)) 1 (E 1)) 2 (E 2)) 3 (E 3)) 4 (E 4)) 5 (E 5)) 6 (E 6)) 7 (E 7)) 8 (E 8)) 9 (E 9)) 10 (E 10)) 11 (E 11)) a1 a2 a3), (a1, aI cI 8 P), (a2, aI cI 3 L), (a3, aI cI 3 G)] H := hP
  have hD : va_D A [(a0, oT (upd (upd (upd (upd (upd (upd (upd (upd (upd (upd (upd (upd F 0 (E 0)) 1 (E 1)) 2 (E 2)) 3 (E 3)) 4 (E 4)) 5 (E 5)) 6 (E 6)) 7 (E 7)) 8 (E 8)) 9 (E 9)) 10 (E 10)) 11 (E 11)) a1 a2 a3), (a1, aI cI 8 P), (a2, aI cI 3 L), (a3, aI cI 3 G)] := hD
  refine lv_aload_n hx hb dX0_copyFrom_96 rfl (lv_at hl 0 rfl) ?_
  refine lv_aload_n hx hb dX0_copyFrom_97 rfl (lv_at hl 1 rfl) ?_
  refine va_get (D := D) (ci := 0) (v := .int (E 12)) (C := RX0) (T := TX0) (N := 20) hx hb hts hiX0 hown hK.1 (hR H locs hS) 0 rfl rfl 12 (by decide) (hts (.fieldLink RX0 59 "SledgeRace$Team" "rope" "I") (by decide +kernel)) (fun _ h9 => h9) rfl dX0_copyFrom_98 ?_
  refine va_put (D := D) (ci := 0) (v := .int (E 12)) (ty := .int) (C := RX0) (T := TX0) (N := 20) hx hb hts hiX0 tyX0 tyX0_ok nmX0 hown hK.1 hP hD hS 0 rfl rfl 12 (by decide) (hts (.fieldLink RX0 59 "SledgeRace$Team" "rope" "I") (by decide +kernel)) (fun _ h9 => h9) rfl (by decide +kernel) rfl rfl (Nat.le_of_ble_eq_true rfl) dX0_copyFrom_101 (fun H locs hP hD hS => ?_)
  have hP : va_P D vwCl [(a0, oT (upd (upd (upd (upd (upd (upd (upd (upd (upd (upd (upd (upd (upd F 0 (E 0)) 1 (E 1)) 2 (E 2)) 3 (E 3)) 4 (E 4)) 5 (E 5)) 6 (E 6)) 7 (E 7)) 8 (E 8)) 9 (E 9)) 10 (E 10)) 11 (E 11)) 12 (E 12)) a1 a2 a3), (a1, aI cI 8 P), (a2, aI cI 3 L), (a3, aI cI 3 G)] H := hP
  have hD : va_D A [(a0, oT (upd (upd (upd (upd (upd (upd (upd (upd (upd (upd (upd (upd (upd F 0 (E 0)) 1 (E 1)) 2 (E 2)) 3 (E 3)) 4 (E 4)) 5 (E 5)) 6 (E 6)) 7 (E 7)) 8 (E 8)) 9 (E 9)) 10 (E 10)) 11 (E 11)) 12 (E 12)) a1 a2 a3), (a1, aI cI 8 P), (a2, aI cI 3 L), (a3, aI cI 3 G)] := hD
  refine lv_aload_n hx hb dX0_copyFrom_104 rfl (lv_at hl 0 rfl) ?_
  refine lv_aload_n hx hb dX0_copyFrom_105 rfl (lv_at hl 1 rfl) ?_
  refine va_get (D := D) (ci := 0) (v := .int (E 13)) (C := RX0) (T := TX0) (N := 20) hx hb hts hiX0 hown hK.1 (hR H locs hS) 0 rfl rfl 13 (by decide) (hts (.fieldLink RX0 62 "SledgeRace$Team" "knotting" "I") (by decide +kernel)) (fun _ h9 => h9) rfl dX0_copyFrom_106 ?_
  refine va_put (D := D) (ci := 0) (v := .int (E 13)) (ty := .int) (C := RX0) (T := TX0) (N := 20) hx hb hts hiX0 tyX0 tyX0_ok nmX0 hown hK.1 hP hD hS 0 rfl rfl 13 (by decide) (hts (.fieldLink RX0 62 "SledgeRace$Team" "knotting" "I") (by decide +kernel)) (fun _ h9 => h9) rfl (by decide +kernel) rfl rfl (Nat.le_of_ble_eq_true rfl) dX0_copyFrom_109 (fun H locs hP hD hS => ?_)
  have hP : va_P D vwCl [(a0, oT (upd (upd (upd (upd (upd (upd (upd (upd (upd (upd (upd (upd (upd (upd F 0 (E 0)) 1 (E 1)) 2 (E 2)) 3 (E 3)) 4 (E 4)) 5 (E 5)) 6 (E 6)) 7 (E 7)) 8 (E 8)) 9 (E 9)) 10 (E 10)) 11 (E 11)) 12 (E 12)) 13 (E 13)) a1 a2 a3), (a1, aI cI 8 P), (a2, aI cI 3 L), (a3, aI cI 3 G)] H := hP
  have hD : va_D A [(a0, oT (upd (upd (upd (upd (upd (upd (upd (upd (upd (upd (upd (upd (upd (upd F 0 (E 0)) 1 (E 1)) 2 (E 2)) 3 (E 3)) 4 (E 4)) 5 (E 5)) 6 (E 6)) 7 (E 7)) 8 (E 8)) 9 (E 9)) 10 (E 10)) 11 (E 11)) 12 (E 12)) 13 (E 13)) a1 a2 a3), (a1, aI cI 8 P), (a2, aI cI 3 L), (a3, aI cI 3 G)] := hD
  refine lv_aload_n hx hb dX0_copyFrom_112 rfl (lv_at hl 0 rfl) ?_
  refine lv_aload_n hx hb dX0_copyFrom_113 rfl (lv_at hl 1 rfl) ?_
  refine va_get (D := D) (ci := 0) (v := .int (E 14)) (C := RX0) (T := TX0) (N := 20) hx hb hts hiX0 hown hK.1 (hR H locs hS) 0 rfl rfl 14 (by decide) (hts (.fieldLink RX0 65 "SledgeRace$Team" "breaks" "I") (by decide +kernel)) (fun _ h9 => h9) rfl dX0_copyFrom_114 ?_
  refine va_put (D := D) (ci := 0) (v := .int (E 14)) (ty := .int) (C := RX0) (T := TX0) (N := 20) hx hb hts hiX0 tyX0 tyX0_ok nmX0 hown hK.1 hP hD hS 0 rfl rfl 14 (by decide) (hts (.fieldLink RX0 65 "SledgeRace$Team" "breaks" "I") (by decide +kernel)) (fun _ h9 => h9) rfl (by decide +kernel) rfl rfl (Nat.le_of_ble_eq_true rfl) dX0_copyFrom_117 (fun H locs hP hD hS => ?_)
  have hP : va_P D vwCl [(a0, oT (upd (upd (upd (upd (upd (upd (upd (upd (upd (upd (upd (upd (upd (upd (upd F 0 (E 0)) 1 (E 1)) 2 (E 2)) 3 (E 3)) 4 (E 4)) 5 (E 5)) 6 (E 6)) 7 (E 7)) 8 (E 8)) 9 (E 9)) 10 (E 10)) 11 (E 11)) 12 (E 12)) 13 (E 13)) 14 (E 14)) a1 a2 a3), (a1, aI cI 8 P), (a2, aI cI 3 L), (a3, aI cI 3 G)] H := hP
  have hD : va_D A [(a0, oT (upd (upd (upd (upd (upd (upd (upd (upd (upd (upd (upd (upd (upd (upd (upd F 0 (E 0)) 1 (E 1)) 2 (E 2)) 3 (E 3)) 4 (E 4)) 5 (E 5)) 6 (E 6)) 7 (E 7)) 8 (E 8)) 9 (E 9)) 10 (E 10)) 11 (E 11)) 12 (E 12)) 13 (E 13)) 14 (E 14)) a1 a2 a3), (a1, aI cI 8 P), (a2, aI cI 3 L), (a3, aI cI 3 G)] := hD
  refine lv_aload_n hx hb dX0_copyFrom_120 rfl (lv_at hl 0 rfl) ?_
  refine lv_aload_n hx hb dX0_copyFrom_121 rfl (lv_at hl 1 rfl) ?_
  refine va_get (D := D) (ci := 0) (v := .int (E 15)) (C := RX0) (T := TX0) (N := 20) hx hb hts hiX0 hown hK.1 (hR H locs hS) 0 rfl rfl 15 (by decide) (hts (.fieldLink RX0 68 "SledgeRace$Team" "way" "I") (by decide +kernel)) (fun _ h9 => h9) rfl dX0_copyFrom_122 ?_
  refine va_put (D := D) (ci := 0) (v := .int (E 15)) (ty := .int) (C := RX0) (T := TX0) (N := 20) hx hb hts hiX0 tyX0 tyX0_ok nmX0 hown hK.1 hP hD hS 0 rfl rfl 15 (by decide) (hts (.fieldLink RX0 68 "SledgeRace$Team" "way" "I") (by decide +kernel)) (fun _ h9 => h9) rfl (by decide +kernel) rfl rfl (Nat.le_of_ble_eq_true rfl) dX0_copyFrom_125 (fun H locs hP hD hS => ?_)
  have hP : va_P D vwCl [(a0, oT (upd (upd (upd (upd (upd (upd (upd (upd (upd (upd (upd (upd (upd (upd (upd (upd F 0 (E 0)) 1 (E 1)) 2 (E 2)) 3 (E 3)) 4 (E 4)) 5 (E 5)) 6 (E 6)) 7 (E 7)) 8 (E 8)) 9 (E 9)) 10 (E 10)) 11 (E 11)) 12 (E 12)) 13 (E 13)) 14 (E 14)) 15 (E 15)) a1 a2 a3), (a1, aI cI 8 P), (a2, aI cI 3 L), (a3, aI cI 3 G)] H := hP
  have hD : va_D A [(a0, oT (upd (upd (upd (upd (upd (upd (upd (upd (upd (upd (upd (upd (upd (upd (upd (upd F 0 (E 0)) 1 (E 1)) 2 (E 2)) 3 (E 3)) 4 (E 4)) 5 (E 5)) 6 (E 6)) 7 (E 7)) 8 (E 8)) 9 (E 9)) 10 (E 10)) 11 (E 11)) 12 (E 12)) 13 (E 13)) 14 (E 14)) 15 (E 15)) a1 a2 a3), (a1, aI cI 8 P), (a2, aI cI 3 L), (a3, aI cI 3 G)] := hD
  refine lv_aload_n hx hb dX0_copyFrom_128 rfl (lv_at hl 0 rfl) ?_
  refine lv_aload_n hx hb dX0_copyFrom_129 rfl (lv_at hl 1 rfl) ?_
  refine va_get (D := D) (ci := 0) (v := .int (E 16)) (C := RX0) (T := TX0) (N := 20) hx hb hts hiX0 hown hK.1 (hR H locs hS) 0 rfl rfl 16 (by decide) (hts (.fieldLink RX0 71 "SledgeRace$Team" "endTick" "I") (by decide +kernel)) (fun _ h9 => h9) rfl dX0_copyFrom_130 ?_
  refine va_put (D := D) (ci := 0) (v := .int (E 16)) (ty := .int) (C := RX0) (T := TX0) (N := 20) hx hb hts hiX0 tyX0 tyX0_ok nmX0 hown hK.1 hP hD hS 0 rfl rfl 16 (by decide) (hts (.fieldLink RX0 71 "SledgeRace$Team" "endTick" "I") (by decide +kernel)) (fun _ h9 => h9) rfl (by decide +kernel) rfl rfl (Nat.le_of_ble_eq_true rfl) dX0_copyFrom_133 (fun H locs hP hD hS => ?_)
  have hP : va_P D vwCl [(a0, oT (upd (upd (upd (upd (upd (upd (upd (upd (upd (upd (upd (upd (upd (upd (upd (upd (upd F 0 (E 0)) 1 (E 1)) 2 (E 2)) 3 (E 3)) 4 (E 4)) 5 (E 5)) 6 (E 6)) 7 (E 7)) 8 (E 8)) 9 (E 9)) 10 (E 10)) 11 (E 11)) 12 (E 12)) 13 (E 13)) 14 (E 14)) 15 (E 15)) 16 (E 16)) a1 a2 a3), (a1, aI cI 8 P), (a2, aI cI 3 L), (a3, aI cI 3 G)] H := hP
  have hD : va_D A [(a0, oT (upd (upd (upd (upd (upd (upd (upd (upd (upd (upd (upd (upd (upd (upd (upd (upd (upd F 0 (E 0)) 1 (E 1)) 2 (E 2)) 3 (E 3)) 4 (E 4)) 5 (E 5)) 6 (E 6)) 7 (E 7)) 8 (E 8)) 9 (E 9)) 10 (E 10)) 11 (E 11)) 12 (E 12)) 13 (E 13)) 14 (E 14)) 15 (E 15)) 16 (E 16)) a1 a2 a3), (a1, aI cI 8 P), (a2, aI cI 3 L), (a3, aI cI 3 G)] := hD
  refine lv_aload_n hx hb dX0_copyFrom_136 rfl (lv_at hl 1 rfl) ?_
  refine va_get (D := D) (ci := 0) (v := .ref b1) (C := RX0) (T := TX0) (N := 20) hx hb hts hiX0 hown hK.1 (hR H locs hS) 0 rfl rfl 17 (by decide) (hts (.fieldLink RX0 40 "SledgeRace$Team" "places" "[I") (by decide +kernel)) (fun _ h9 => h9) rfl dX0_copyFrom_137 ?_
  refine lv_aload_n hx hb dX0_copyFrom_140 rfl (lv_at hl 0 rfl) ?_
  refine va_get (D := D) (ci := 0) (v := .ref a1) (C := RX0) (T := TX0) (N := 20) hx hb hts hiX0 hown hK.1 hP 0 rfl rfl 17 (by decide) (hts (.fieldLink RX0 40 "SledgeRace$Team" "places" "[I") (by decide +kernel)) (fun _ h9 => h9) rfl dX0_copyFrom_141 ?_
  refine sp_vS (rest := []) (As := [.ref b1, .ref a1]) (W1 := [(a0, oT (upd (upd (upd (upd (upd (upd (upd (upd (upd (upd (upd (upd (upd (upd (upd (upd (upd F 0 (E 0)) 1 (E 1)) 2 (E 2)) 3 (E 3)) 4 (E 4)) 5 (E 5)) 6 (E 6)) 7 (E 7)) 8 (E 8)) 9 (E 9)) 10 (E 10)) 11 (E 11)) 12 (E 12)) 13 (E 13)) 14 (E 14)) 15 (E 15)) 16 (E 16)) a1 a2 a3), (a1, aI cI 8 P2), (a2, aI cI 3 L), (a3, aI cI 3 G)]) ⟨hx, hb, hml, hown, hts⟩ (mX0_copyRow l D cI cT b1 a1 P2 P 8 (by decide)) (va_cwS 2 hts gX0_copyFrom_X0_copyRow rfl rfl rfl (by decide +kernel) ⟨Nat.le_of_ble_eq_true rfl, Nat.le_of_ble_eq_true rfl⟩) hK hP hD hS [1] rfl (sp_pick (hR H locs hS) [1] rfl) (sp_nsub hN [1, 5] (by decide) rfl) rfl rfl rfl rfl hl.1 rfl (Nat.le_of_ble_eq_true rfl) dX0_copyFrom_144 ⟨Nat.le_of_ble_eq_true rfl, Nat.le_of_ble_eq_true rfl⟩ (fun H locs hP hD hS => ?_)
  refine lv_aload_n hx hb dX0_copyFrom_147 rfl (lv_at hl 1 rfl) ?_
  refine va_get (D := D) (ci := 0) (v := .ref b2) (C := RX0) (T := TX0) (N := 20) hx hb hts hiX0 hown hK.1 (hR H locs hS) 0 rfl rfl 18 (by decide) (hts (.fieldLink RX0 44 "SledgeRace$Team" "loads" "[I") (by decide +kernel)) (fun _ h9 => h9) rfl dX0_copyFrom_148 ?_
  refine lv_aload_n hx hb dX0_copyFrom_151 rfl (lv_at hl 0 rfl) ?_
  refine va_get (D := D) (ci := 0) (v := .ref a2) (C := RX0) (T := TX0) (N := 20) hx hb hts hiX0 hown hK.1 hP 0 rfl rfl 18 (by decide) (hts (.fieldLink RX0 44 "SledgeRace$Team" "loads" "[I") (by decide +kernel)) (fun _ h9 => h9) rfl dX0_copyFrom_152 ?_
  refine sp_vS (rest := []) (As := [.ref b2, .ref a2]) (W1 := [(a0, oT (upd (upd (upd (upd (upd (upd (upd (upd (upd (upd (upd (upd (upd (upd (upd (upd (upd F 0 (E 0)) 1 (E 1)) 2 (E 2)) 3 (E 3)) 4 (E 4)) 5 (E 5)) 6 (E 6)) 7 (E 7)) 8 (E 8)) 9 (E 9)) 10 (E 10)) 11 (E 11)) 12 (E 12)) 13 (E 13)) 14 (E 14)) 15 (E 15)) 16 (E 16)) a1 a2 a3), (a1, aI cI 8 P2), (a2, aI cI 3 L2), (a3, aI cI 3 G)]) ⟨hx, hb, hml, hown, hts⟩ (mX0_copyRow l D cI cT b2 a2 L2 L 3 (by decide)) (va_cwS 2 hts gX0_copyFrom_X0_copyRow rfl rfl rfl (by decide +kernel) ⟨Nat.le_of_ble_eq_true rfl, Nat.le_of_ble_eq_true rfl⟩) hK hP hD hS [2] rfl (sp_pick (hR H locs hS) [2] rfl) (sp_nsub hN [2, 6] (by decide) rfl) rfl rfl rfl rfl hl.1 rfl (Nat.le_of_ble_eq_true rfl) dX0_copyFrom_155 ⟨Nat.le_of_ble_eq_true rfl, Nat.le_of_ble_eq_true rfl⟩ (fun H locs hP hD hS => ?_)
  refine lv_aload_n hx hb dX0_copyFrom_158 rfl (lv_at hl 1 rfl) ?_
  refine va_get (D := D) (ci := 0) (v := .ref b3) (C := RX0) (T := TX0) (N := 20) hx hb hts hiX0 hown hK.1 (hR H locs hS) 0 rfl rfl 19 (by decide) (hts (.fieldLink RX0 47 "SledgeRace$Team" "ticksToGo" "[I") (by decide +kernel)) (fun _ h9 => h9) rfl dX0_copyFrom_159 ?_
  refine lv_aload_n hx hb dX0_copyFrom_162 rfl (lv_at hl 0 rfl) ?_
  refine va_get (D := D) (ci := 0) (v := .ref a3) (C := RX0) (T := TX0) (N := 20) hx hb hts hiX0 hown hK.1 hP 0 rfl rfl 19 (by decide) (hts (.fieldLink RX0 47 "SledgeRace$Team" "ticksToGo" "[I") (by decide +kernel)) (fun _ h9 => h9) rfl dX0_copyFrom_163 ?_
  refine sp_vS (rest := []) (As := [.ref b3, .ref a3]) (W1 := [(a0, oT (upd (upd (upd (upd (upd (upd (upd (upd (upd (upd (upd (upd (upd (upd (upd (upd (upd F 0 (E 0)) 1 (E 1)) 2 (E 2)) 3 (E 3)) 4 (E 4)) 5 (E 5)) 6 (E 6)) 7 (E 7)) 8 (E 8)) 9 (E 9)) 10 (E 10)) 11 (E 11)) 12 (E 12)) 13 (E 13)) 14 (E 14)) 15 (E 15)) 16 (E 16)) a1 a2 a3), (a1, aI cI 8 P2), (a2, aI cI 3 L2), (a3, aI cI 3 G2)]) ⟨hx, hb, hml, hown, hts⟩ (mX0_copyRow l D cI cT b3 a3 G2 G 3 (by decide)) (va_cwS 2 hts gX0_copyFrom_X0_copyRow rfl rfl rfl (by decide +kernel) ⟨Nat.le_of_ble_eq_true rfl, Nat.le_of_ble_eq_true rfl⟩) hK hP hD hS [3] rfl (sp_pick (hR H locs hS) [3] rfl) (sp_nsub hN [3, 7] (by decide) rfl) rfl rfl rfl rfl hl.1 rfl (Nat.le_of_ble_eq_true rfl) dX0_copyFrom_166 ⟨Nat.le_of_ble_eq_true rfl, Nat.le_of_ble_eq_true rfl⟩ (fun H locs hP hD hS => ?_)
  subst hQ
  have hP9 : va_P D vwCl [(a0, oT E a1 a2 a3), (a1, aI cI 8 P2), (a2, aI cI 3 L2), (a3, aI cI 3 G2)] H := hP
  subst hAe
  exact W.vret hx hb hr (fun t ht hW => ⟨⟨(), rfl, trivial, by show va_P D vwCl _ t.heap; rw [ht]; exact hP9⟩, hS.F ht⟩) hS.2.2 dX0_copyFrom_169
