abbrev rmX1_init : Room := { frames := 1, cells := 3, slots := 36, locals := 12 }
set_option maxHeartbeats 4000000 in
set_option maxRecDepth 100000 in
/-- a new track -/
theorem mX1_init (l : Launch) (D : va_G) (cI cT : ClassId) (sz h0 : Nat) : MetVA l D cI cT yX1_init wsX1_init rmX1_init [.ref h0] [(h0, oKn (fun _ => 0) .null .null .null)] [] (fun u => [(h0, oK cTrackF (u.getD 0 0) (u.getD 1 0) (u.getD 2 0)), ((u.getD 0 0), aI cI 12 (fun _ => 0)), ((u.getD 1 0), aI cI 12 (fun _ => 0)), ((u.getD 2 0), aI cI 12 (upd (fun _ => 0) 0 2))]) 3 3 36 sz := by
  refine Met.ofW (cc := cX1_init) (maxL := 1) (ret := none) (by decide) rfl ?_
  intro p e s m args below meth c s₁ B hml hv
  obtain ⟨hargs, hsz, hP, hR0, hK, hN⟩ := hv
  have hx := B.exec
  have hb := B.bytes
  have hr := B.returns
  have hts := atoms_spec (ws := wsX1_init) B.pre
  have hown : s.vm.findClass RX1 = some m.cls := findClass_of_methodNamed B.named
  have hlocks := B.notSynchronized
  have hin : meth.name = "<init>" := (name_of_methodNamed B.named B.method).1
  have hiX1 : ∀ w ∈ u_ws RX1 TX1 5, w ∈ wsX1_init := by decide +kernel
  have he : entryFrame m args 1 = F0 m 0 ((lg_sl [.ref h0] ++ List.replicate (1 - (lg_sl [.ref h0]).length) Slot.unset).toArray) [] := by rw [hargs]; exact lg_entry_eq m _ _
  rw [he]
  change W p l e rmX1_init s m args below meth c s.heap [] 0 0 (MQ below (va_Qv (S := List Nat) (fun u => u.length = 3) (fun u t => va_P D vwCl ((fun u => [(h0, oK cTrackF (u.getD 0 0) (u.getD 1 0) (u.getD 2 0)), ((u.getD 0 0), aI cI 12 (fun _ => 0)), ((u.getD 1 0), aI cI 12 (fun _ => 0)), ((u.getD 2 0), aI cI 12 (upd (fun _ => 0) 0 2))]) u) t.heap ∧ va_D (frA (List.map Prod.fst [(h0, oKn (fun _ => 0) .null .null .null)]) sz) ((fun u => [(h0, oK cTrackF (u.getD 0 0) (u.getD 1 0) (u.getD 2 0)), ((u.getD 0 0), aI cI 12 (fun _ => 0)), ((u.getD 1 0), aI cI 12 (fun _ => 0)), ((u.getD 2 0), aI cI 12 (upd (fun _ => 0) 0 2))]) u)) (frA (List.map Prod.fst [(h0, oKn (fun _ => 0) .null .null .null)]) sz)) args s 3 36 (frA (List.map Prod.fst [(h0, oKn (fun _ => 0) .null .null .null)]) sz)) _
  obtain ⟨Q, hQ⟩ : ∃ Q, Q = MQ below (va_Qv (S := List Nat) (fun u => u.length = 3) (fun u t => va_P D vwCl ((fun u => [(h0, oK cTrackF (u.getD 0 0) (u.getD 1 0) (u.getD 2 0)), ((u.getD 0 0), aI cI 12 (fun _ => 0)), ((u.getD 1 0), aI cI 12 (fun _ => 0)), ((u.getD 2 0), aI cI 12 (upd (fun _ => 0) 0 2))]) u) t.heap ∧ va_D (frA (List.map Prod.fst [(h0, oKn (fun _ => 0) .null .null .null)]) sz) ((fun u => [(h0, oK cTrackF (u.getD 0 0) (u.getD 1 0) (u.getD 2 0)), ((u.getD 0 0), aI cI 12 (fun _ => 0)), ((u.getD 1 0), aI cI 12 (fun _ => 0)), ((u.getD 2 0), aI cI 12 (upd (fun _ => 0) 0 2))]) u)) (frA (List.map Prod.fst [(h0, oKn (fun _ => 0) .null .null .null)]) sz)) args s 3 36 (frA (List.map Prod.fst [(h0, oKn (fun _ => 0) .null .null .null)]) sz) := ⟨_, rfl⟩
  rw [← hQ]
  have hl := lv_entry [.ref h0] (n := 1) (Nat.le_of_ble_eq_true rfl)
  generalize (lg_sl [.ref h0] ++ List.replicate (1 - (lg_sl [.ref h0]).length) Slot.unset).toArray = ls at hl ⊢
  have hl : lv_has ls 1 [(0, .ref h0)] := hl
  obtain ⟨A, hAe⟩ : ∃ A, A = (frA (List.map Prod.fst [(h0, oKn (fun _ => 0) .null .null .null)]) sz) := ⟨_, rfl⟩
  have hA0 : ∀ q ∈ List.map Prod.fst [(h0, oKn (fun _ => 0) .null .null .null)], A q := by rw [hAe]; exact fun q h => Or.inl h
  subst hsz
  have hA : ∀ q : Nat, s.heap.size ≤ q → A q := by rw [hAe]; exact fun q h => Or.inr h
  have hD : va_D A [(h0, oKn (fun _ => 0) .null .null .null)] := sp_D (List.nodup_append.mp (show (([(h0, oKn (fun _ => 0) .null .null .null)] : va_W).map Prod.fst ++ ([] : va_W).map Prod.fst).Nodup by rw [← List.map_append]; exact hN)).1 hA0
  have hN : (List.map Prod.fst ([(h0, oKn (fun _ => 0) .null .null .null)] ++ []) : List Nat).Nodup := hN
  have hS : va_S A s.heap s.heap [] := va_S.rf
  obtain ⟨H, hH0⟩ : ∃ H, H = s.heap := ⟨_, rfl⟩
  obtain ⟨locs, hlo⟩ : ∃ L : List Loc, L = [] := ⟨_, rfl⟩
  have hP : va_P D vwCl [(h0, oKn (fun _ => 0) .null .null .null)] H := by rw [hH0]; exact hP
  have hS : va_S A s.heap H locs := by rw [hH0, hlo]; exact hS
  rw [show W p l e rmX1_init s m args below meth c s.heap [] 0 0 Q (F0 m 0 ls []) = W p l e rmX1_init s m args below meth c H locs 0 0 Q (F0 m 0 ls []) by rw [hH0, hlo]]
  clear hH0 hlo
  refine lv_aload_n hx hb dX1_init_0 rfl (lv_at hl 0 rfl) ?_
  refine W.objInit hx hb hown (hts (.methodLink RX1 1 objectInit) (by decide +kernel)) (hts (.instanceMethod objectInit) (by decide +kernel)) (hts _ (List.mem_of_getElem? (i := 3) rfl)) rfl (by rw [hml]; exact hl.1) rfl dX1_init_1 (Nat.le_of_ble_eq_true rfl) (Nat.le_of_ble_eq_true rfl) ?_
  refine W.eq (g2 := F0 m 4 ls []) rfl ?_
  refine lv_aload_n hx hb dX1_init_4 rfl (lv_at hl 0 rfl) ?_
  refine lv_bipush (v := 12) hx hb dX1_init_5 (by decide) ?_
  refine sp_newa hx hb (hts (.arrayClass .int) (by decide +kernel)) hK hP hD hS hA 12 rfl (by decide) (Nat.le_of_ble_eq_true rfl) (Nat.le_of_ble_eq_true rfl) dX1_init_7 (fun q7 H hP hD hS => ?_)
  have hP : va_P D vwCl [(h0, oKn (fun _ => 0) .null .null .null), (q7, aI cI 12 (fun _ => 0))] H := hP
  have hD : va_D A [(h0, oKn (fun _ => 0) .null .null .null), (q7, aI cI 12 (fun _ => 0))] := hD
  refine va_putF (D := D) (ci := 1) (v := .ref q7) (ty := (.array .int)) (C := RX1) (T := TX1) (N := 5) hx hb hts hiX1 tyX1 tyX1_ok nmX1 hown hK.1 hP hD hS 0 rfl rfl 0 (by decide) (hts (.fieldLink RX1 9 "SledgeRace$Track" "starts" "[I") (by decide +kernel)) (fun _ h9 => h9) rfl hin rfl (by decide +kernel) rfl rfl (Nat.le_of_ble_eq_true rfl) dX1_init_9 (fun H locs hP hD hS => ?_)
  have hP : va_P D vwCl [(h0, oKn (fun _ => 0) (.ref q7) .null .null), (q7, aI cI 12 (fun _ => 0))] H := hP
  have hD : va_D A [(h0, oKn (fun _ => 0) (.ref q7) .null .null), (q7, aI cI 12 (fun _ => 0))] := hD
  refine lv_aload_n hx hb dX1_init_12 rfl (lv_at hl 0 rfl) ?_
  refine lv_bipush (v := 12) hx hb dX1_init_13 (by decide) ?_
  refine sp_newa hx hb (hts (.arrayClass .int) (by decide +kernel)) hK hP hD hS hA 12 rfl (by decide) (Nat.le_of_ble_eq_true rfl) (Nat.le_of_ble_eq_true rfl) dX1_init_15 (fun q15 H hP hD hS => ?_)
  have hP : va_P D vwCl [(h0, oKn (fun _ => 0) (.ref q7) .null .null), (q7, aI cI 12 (fun _ => 0)), (q15, aI cI 12 (fun _ => 0))] H := hP
  have hD : va_D A [(h0, oKn (fun _ => 0) (.ref q7) .null .null), (q7, aI cI 12 (fun _ => 0)), (q15, aI cI 12 (fun _ => 0))] := hD
  refine va_putF (D := D) (ci := 1) (v := .ref q15) (ty := (.array .int)) (C := RX1) (T := TX1) (N := 5) hx hb hts hiX1 tyX1 tyX1_ok nmX1 hown hK.1 hP hD hS 0 rfl rfl 1 (by decide) (hts (.fieldLink RX1 13 "SledgeRace$Track" "slopes" "[I") (by decide +kernel)) (fun _ h9 => h9) rfl hin rfl (by decide +kernel) rfl rfl (Nat.le_of_ble_eq_true rfl) dX1_init_17 (fun H locs hP hD hS => ?_)
  have hP : va_P D vwCl [(h0, oKn (fun _ => 0) (.ref q7) (.ref q15) .null), (q7, aI cI 12 (fun _ => 0)), (q15, aI cI 12 (fun _ => 0))] H := hP
  have hD : va_D A [(h0, oKn (fun _ => 0) (.ref q7) (.ref q15) .null), (q7, aI cI 12 (fun _ => 0)), (q15, aI cI 12 (fun _ => 0))] := hD
  refine lv_aload_n hx hb dX1_init_20 rfl (lv_at hl 0 rfl) ?_
  refine lv_bipush (v := 12) hx hb dX1_init_21 (by decide) ?_
  refine sp_newa hx hb (hts (.arrayClass .int) (by decide +kernel)) hK hP hD hS hA 12 rfl (by decide) (Nat.le_of_ble_eq_true rfl) (Nat.le_of_ble_eq_true rfl) dX1_init_23 (fun q23 H hP hD hS => ?_)
  have hP : va_P D vwCl [(h0, oKn (fun _ => 0) (.ref q7) (.ref q15) .null), (q7, aI cI 12 (fun _ => 0)), (q15, aI cI 12 (fun _ => 0)), (q23, aI cI 12 (fun _ => 0))] H := hP
  have hD : va_D A [(h0, oKn (fun _ => 0) (.ref q7) (.ref q15) .null), (q7, aI cI 12 (fun _ => 0)), (q15, aI cI 12 (fun _ => 0)), (q23, aI cI 12 (fun _ => 0))] := hD
  refine va_putF (D := D) (ci := 1) (v := .ref q23) (ty := (.array .int)) (C := RX1) (T := TX1) (N := 5) hx hb hts hiX1 tyX1 tyX1_ok nmX1 hown hK.1 hP hD hS 0 rfl rfl 2 (by decide) (hts (.fieldLink RX1 16 "SledgeRace$Track" "softnesses" "[I") (by decide +kernel)) (fun _ h9 => h9) rfl hin rfl (by decide +kernel) rfl rfl (Nat.le_of_ble_eq_true rfl) dX1_init_25 (fun H locs hP hD hS => ?_)
  have hP : va_P D vwCl [(h0, oK (fun _ => 0) q7 q15 q23), (q7, aI cI 12 (fun _ => 0)), (q15, aI cI 12 (fun _ => 0)), (q23, aI cI 12 (fun _ => 0))] H := hP
  have hD : va_D A [(h0, oK (fun _ => 0) q7 q15 q23), (q7, aI cI 12 (fun _ => 0)), (q15, aI cI 12 (fun _ => 0)), (q23, aI cI 12 (fun _ => 0))] := hD
  refine lv_aload_n hx hb dX1_init_28 rfl (lv_at hl 0 rfl) ?_
  refine va_get (D := D) (ci := 1) (v := .ref q23) (C := RX1) (T := TX1) (N := 5) hx hb hts hiX1 hown hK.1 hP 0 rfl rfl 2 (by decide) (hts (.fieldLink RX1 16 "SledgeRace$Track" "softnesses" "[I") (by decide +kernel)) (fun _ h9 => h9) rfl dX1_init_29 ?_
  refine lv_iconst (v := 0) hx hb dX1_init_32 (by decide) ?_
  refine lv_iconst (v := 2) hx hb dX1_init_33 (by decide) ?_
  refine sp_iast (i := 0) hx hb hK.1 hP hD hS 3 0 rfl rfl (by omega) (by omega) dX1_init_34 (fun H locs hP hD hS => ?_)
  have hP : va_P D vwCl [(h0, oK (fun _ => 0) q7 q15 q23), (q7, aI cI 12 (fun _ => 0)), (q15, aI cI 12 (fun _ => 0)), (q23, aI cI 12 (upd (fun _ => 0) 0 2))] H := hP
  have hD : va_D A [(h0, oK (fun _ => 0) q7 q15 q23), (q7, aI cI 12 (fun _ => 0)), (q15, aI cI 12 (fun _ => 0)), (q23, aI cI 12 (upd (fun _ => 0) 0 2))] := hD
  refine lv_aload_n hx hb dX1_init_35 rfl (lv_at hl 0 rfl) ?_
  refine lv_iconst (v := 1) hx hb dX1_init_36 (by decide) ?_
  refine va_put (D := D) (ci := 1) (v := .int 1) (ty := .int) (C := RX1) (T := TX1) (N := 5) hx hb hts hiX1 tyX1 tyX1_ok nmX1 hown hK.1 hP hD hS 0 rfl rfl 3 (by decide) (hts (.fieldLink RX1 19 "SledgeRace$Track" "stretches" "I") (by decide +kernel)) (fun _ h9 => h9) rfl (by decide +kernel) rfl rfl (Nat.le_of_ble_eq_true rfl) dX1_init_37 (fun H locs hP hD hS => ?_)
  have hP : va_P D vwCl [(h0, oK (upd (fun _ => 0) 3 1) q7 q15 q23), (q7, aI cI 12 (fun _ => 0)), (q15, aI cI 12 (fun _ => 0)), (q23, aI cI 12 (upd (fun _ => 0) 0 2))] H := hP
  have hD : va_D A [(h0, oK (upd (fun _ => 0) 3 1) q7 q15 q23), (q7, aI cI 12 (fun _ => 0)), (q15, aI cI 12 (fun _ => 0)), (q23, aI cI 12 (upd (fun _ => 0) 0 2))] := hD
  refine lv_aload_n hx hb dX1_init_40 rfl (lv_at hl 0 rfl) ?_
  refine lv_sipush (v := 500) hx hb dX1_init_41 (by decide) ?_
  refine va_put (D := D) (ci := 1) (v := .int 500) (ty := .int) (C := RX1) (T := TX1) (N := 5) hx hb hts hiX1 tyX1 tyX1_ok nmX1 hown hK.1 hP hD hS 0 rfl rfl 4 (by decide) (hts (.fieldLink RX1 23 "SledgeRace$Track" "length" "I") (by decide +kernel)) (fun _ h9 => h9) rfl (by decide +kernel) rfl rfl (Nat.le_of_ble_eq_true rfl) dX1_init_44 (fun H locs hP hD hS => ?_)
  have hP : va_P D vwCl [(h0, oK (upd (upd (fun _ => 0) 3 1) 4 500) q7 q15 q23), (q7, aI cI 12 (fun _ => 0)), (q15, aI cI 12 (fun _ => 0)), (q23, aI cI 12 (upd (fun _ => 0) 0 2))] H := hP
  have hD : va_D A [(h0, oK (upd (upd (fun _ => 0) 3 1) 4 500) q7 q15 q23), (q7, aI cI 12 (fun _ => 0)), (q15, aI cI 12 (fun _ => 0)), (q23, aI cI 12 (upd (fun _ => 0) 0 2))] := hD
  subst hQ
  have hP9 : va_P D vwCl ((fun u => [(h0, oK cTrackF (u.getD 0 0) (u.getD 1 0) (u.getD 2 0)), ((u.getD 0 0), aI cI 12 (fun _ => 0)), ((u.getD 1 0), aI cI 12 (fun _ => 0)), ((u.getD 2 0), aI cI 12 (upd (fun _ => 0) 0 2))]) [q7, q15, q23]) H := hP
  subst hAe
  exact W.vret hx hb hr (fun t ht hW => ⟨⟨[q7, q15, q23], rfl, rfl, by show va_P D vwCl _ t.heap; rw [ht]; exact hP9, hD⟩, hS.F ht⟩) hS.2.2 dX1_init_47

abbrev rmX0_init : Room := { frames := 1, cells := 3, slots := 14, locals := 21 }
set_option maxHeartbeats 4000000 in
set_option maxRecDepth 100000 in
/-- a new team -/
theorem mX0_init (l : Launch) (D : va_G) (cI cT : ClassId) (sz h0 : Nat) (x y w : Int32) (n : Nat) (hn : n ≤ 8) : MetVA l D cI cT yX0_init wsX0_init rmX0_init [.ref h0, .int x, .int y, .int w, .int (nI n)] [(h0, oTn (fun _ => 0) .null .null .null)] [] (fun u => [(h0, oT (cStartF (cNewF x y w n)) (u.getD 0 0) (u.getD 1 0) (u.getD 2 0)), ((u.getD 0 0), aI cI 8 (cStartP (cNewF x y w n) (fun _ => 0) n n)), ((u.getD 1 0), aI cI 3 (cFill (fun _ => 0) (-1) 3)), ((u.getD 2 0), aI cI 3 (cFill (fun _ => 0) 0 3))]) 3 3 14 sz := by
  refine Met.ofW (cc := cX0_init) (maxL := 5) (ret := none) (by decide) rfl ?_
  intro p e s m args below meth c s₁ B hml hv
  obtain ⟨hargs, hsz, hP, hR0, hK, hN⟩ := hv
  have hx := B.exec
  have hb := B.bytes
  have hr := B.returns
  have hts := atoms_spec (ws := wsX0_init) B.pre
  have hown : s.vm.findClass RX0 = some m.cls := findClass_of_methodNamed B.named
  have hlocks := B.notSynchronized
  have hin : meth.name = "<init>" := (name_of_methodNamed B.named B.method).1
  have hiX0 : ∀ w ∈ u_ws RX0 TX0 20, w ∈ wsX0_init := by decide +kernel
  have he : entryFrame m args 5 = F0 m 0 ((lg_sl [.ref h0, .int x, .int y, .int w, .int (nI n)] ++ List.replicate (5 - (lg_sl [.ref h0, .int x, .int y, .int w, .int (nI n)]).length) Slot.unset).toArray) [] := by rw [hargs]; exact lg_entry_eq m _ _
  rw [he]
  change W p l e rmX0_init s m args below meth c s.heap [] 0 0 (MQ below (va_Qv (S := List Nat) (fun u => u.length = 3) (fun u t => va_P D vwCl ((fun u => [(h0, oT (cStartF (cNewF x y w n)) (u.getD 0 0) (u.getD 1 0) (u.getD 2 0)), ((u.getD 0 0), aI cI 8 (cStartP (cNewF x y w n) (fun _ => 0) n n)), ((u.getD 1 0), aI cI 3 (cFill (fun _ => 0) (-1) 3)), ((u.getD 2 0), aI cI 3 (cFill (fun _ => 0) 0 3))]) u) t.heap ∧ va_D (frA (List.map Prod.fst [(h0, oTn (fun _ => 0) .null .null .null)]) sz) ((fun u => [(h0, oT (cStartF (cNewF x y w n)) (u.getD 0 0) (u.getD 1 0) (u.getD 2 0)), ((u.getD 0 0), aI cI 8 (cStartP (cNewF x y w n) (fun _ => 0) n n)), ((u.getD 1 0), aI cI 3 (cFill (fun _ => 0) (-1) 3)), ((u.getD 2 0), aI cI 3 (cFill (fun _ => 0) 0 3))]) u)) (frA (List.map Prod.fst [(h0, oTn (fun _ => 0) .null .null .null)]) sz)) args s 3 14 (frA (List.map Prod.fst [(h0, oTn (fun _ => 0) .null .null .null)]) sz)) _
  obtain ⟨Q, hQ⟩ : ∃ Q, Q = MQ below (va_Qv (S := List Nat) (fun u => u.length = 3) (fun u t => va_P D vwCl ((fun u => [(h0, oT (cStartF (cNewF x y w n)) (u.getD 0 0) (u.getD 1 0) (u.getD 2 0)), ((u.getD 0 0), aI cI 8 (cStartP (cNewF x y w n) (fun _ => 0) n n)), ((u.getD 1 0), aI cI 3 (cFill (fun _ => 0) (-1) 3)), ((u.getD 2 0), aI cI 3 (cFill (fun _ => 0) 0 3))]) u) t.heap ∧ va_D (frA (List.map Prod.fst [(h0, oTn (fun _ => 0) .null .null .null)]) sz) ((fun u => [(h0, oT (cStartF (cNewF x y w n)) (u.getD 0 0) (u.getD 1 0) (u.getD 2 0)), ((u.getD 0 0), aI cI 8 (cStartP (cNewF x y w n) (fun _ => 0) n n)), ((u.getD 1 0), aI cI 3 (cFill (fun _ => 0) (-1) 3)), ((u.getD 2 0), aI cI 3 (cFill (fun _ => 0) 0 3))]) u)) (frA (List.map Prod.fst [(h0, oTn (fun _ => 0) .null .null .null)]) sz)) args s 3 14 (frA (List.map Prod.fst [(h0, oTn (fun _ => 0) .null .null .null)]) sz) := ⟨_, rfl⟩
  rw [← hQ]
  have hl := lv_entry [.ref h0, .int x, .int y, .int w, .int (nI n)] (n := 5) (Nat.le_of_ble_eq_true rfl)
  generalize (lg_sl [.ref h0, .int x, .int y, .int w, .int (nI n)] ++ List.replicate (5 - (lg_sl [.ref h0, .int x, .int y, .int w, .int (nI n)]).length) Slot.unset).toArray = ls at hl ⊢
  have hl : lv_has ls 5 [(0, .ref h0), (1, .int x), (2, .int y), (3, .int w), (4, .int (nI n))] := hl
  obtain ⟨A, hAe⟩ : ∃ A, A = (frA (List.map Prod.fst [(h0, oTn (fun _ => 0) .null .null .null)]) sz) := ⟨_, rfl⟩
  have hA0 : ∀ q ∈ List.map Prod.fst [(h0, oTn (fun _ => 0) .null .null .null)], A q := by rw [hAe]; exact fun q h => Or.inl h
  subst hsz
  have hA : ∀ q : Nat, s.heap.size ≤ q → A q := by rw [hAe]; exact fun q h => Or.inr h
  have hD : va_D A [(h0, oTn (fun _ => 0) .null .null .null)] := sp_D (List.nodup_append.mp (show (([(h0, oTn (fun _ => 0) .null .null .null)] : va_W).map Prod.fst ++ ([] : va_W).map Prod.fst).Nodup by rw [← List.map_append]; exact hN)).1 hA0
  have hN : (List.map Prod.fst ([(h0, oTn (fun _ => 0) .null .null .null)] ++ []) : List Nat).Nodup := hN
  have hS : va_S A s.heap s.heap [] := va_S.rf
  obtain ⟨H, hH0⟩ : ∃ H, H = s.heap := ⟨_, rfl⟩
  obtain ⟨locs, hlo⟩ : ∃ L : List Loc, L = [] := ⟨_, rfl⟩
  have hP : va_P D vwCl [(h0, oTn (fun _ => 0) .null .null .null)] H := by rw [hH0]; exact hP
  have hS : va_S A s.heap H locs := by rw [hH0, hlo]; exact hS
  rw [show W p l e rmX0_init s m args below meth c s.heap [] 0 0 Q (F0 m 0 ls []) = W p l e rmX0_init s m args below meth c H locs 0 0 Q (F0 m 0 ls []) by rw [hH0, hlo]]
  clear hH0 hlo
  refine lv_aload_n hx hb dX0_init_0 rfl (lv_at hl 0 rfl) ?_
  refine W.objInit hx hb hown (hts (.methodLink RX0 1 objectInit) (by decide +kernel)) (hts (.instanceMethod objectInit) (by decide +kernel)) (hts _ (List.mem_of_getElem? (i := 3) rfl)) rfl (by rw [hml]; exact hl.1) rfl dX0_init_1 (Nat.le_of_ble_eq_true rfl) (Nat.le_of_ble_eq_true rfl) ?_
  refine W.eq (g2 := F0 m 4 ls []) rfl ?_
  refine lv_aload_n hx hb dX0_init_4 rfl (lv_at hl 0 rfl) ?_
  refine lv_iload_n hx hb dX0_init_5 rfl (lv_at hl 1 rfl) ?_
  refine va_put (D := D) (ci := 0) (v := .int x) (ty := .int) (C := RX0) (T := TX0) (N := 20) hx hb hts hiX0 tyX0 tyX0_ok nmX0 hown hK.1 hP hD hS 0 rfl rfl 0 (by decide) (hts (.fieldLink RX0 7 "SledgeRace$Team" "number" "I") (by decide +kernel)) (fun _ h9 => h9) rfl (by decide +kernel) rfl rfl (Nat.le_of_ble_eq_true rfl) dX0_init_6 (fun H locs hP hD hS => ?_)
  have hP : va_P D vwCl [(h0, oTn (upd (fun _ => 0) 0 x) .null .null .null)] H := hP
  have hD : va_D A [(h0, oTn (upd (fun _ => 0) 0 x) .null .null .null)] := hD
  refine lv_aload_n hx hb dX0_init_9 rfl (lv_at hl 0 rfl) ?_
  refine lv_iload_n hx hb dX0_init_10 rfl (lv_at hl 2 rfl) ?_
  refine va_put (D := D) (ci := 0) (v := .int y) (ty := .int) (C := RX0) (T := TX0) (N := 20) hx hb hts hiX0 tyX0 tyX0_ok nmX0 hown hK.1 hP hD hS 0 rfl rfl 1 (by decide) (hts (.fieldLink RX0 13 "SledgeRace$Team" "length" "I") (by decide +kernel)) (fun _ h9 => h9) rfl (by decide +kernel) rfl rfl (Nat.le_of_ble_eq_true rfl) dX0_init_11 (fun H locs hP hD hS => ?_)
  have hP : va_P D vwCl [(h0, oTn (upd (upd (fun _ => 0) 0 x) 1 y) .null .null .null)] H := hP
  have hD : va_D A [(h0, oTn (upd (upd (fun _ => 0) 0 x) 1 y) .null .null .null)] := hD
  refine lv_aload_n hx hb dX0_init_14 rfl (lv_at hl 0 rfl) ?_
  refine lv_iload_n hx hb dX0_init_15 rfl (lv_at hl 3 rfl) ?_
  refine va_put (D := D) (ci := 0) (v := .int w) (ty := .int) (C := RX0) (T := TX0) (N := 20) hx hb hts hiX0 tyX0 tyX0_ok nmX0 hown hK.1 hP hD hS 0 rfl rfl 2 (by decide) (hts (.fieldLink RX0 16 "SledgeRace$Team" "weight" "I") (by decide +kernel)) (fun _ h9 => h9) rfl (by decide +kernel) rfl rfl (Nat.le_of_ble_eq_true rfl) dX0_init_16 (fun H locs hP hD hS => ?_)
  have hP : va_P D vwCl [(h0, oTn (upd (upd (upd (fun _ => 0) 0 x) 1 y) 2 w) .null .null .null)] H := hP
  have hD : va_D A [(h0, oTn (upd (upd (upd (fun _ => 0) 0 x) 1 y) 2 w) .null .null .null)] := hD
  refine lv_aload_n hx hb dX0_init_19 rfl (lv_at hl 0 rfl) ?_
  refine lv_iload hx hb dX0_init_20 (lv_at hl 4 rfl) ?_
  refine va_put (D := D) (ci := 0) (v := .int (nI n)) (ty := .int) (C := RX0) (T := TX0) (N := 20) hx hb hts hiX0 tyX0 tyX0_ok nmX0 hown hK.1 hP hD hS 0 rfl rfl 3 (by decide) (hts (.fieldLink RX0 19 "SledgeRace$Team" "rollers" "I") (by decide +kernel)) (fun _ h9 => h9) rfl (by decide +kernel) rfl rfl (Nat.le_of_ble_eq_true rfl) dX0_init_22 (fun H locs hP hD hS => ?_)
  have hP : va_P D vwCl [(h0, oTn (upd (upd (upd (upd (fun _ => 0) 0 x) 1 y) 2 w) 3 (nI n)) .null .null .null)] H := hP
  have hD : va_D A [(h0, oTn (upd (upd (upd (upd (fun _ => 0) 0 x) 1 y) 2 w) 3 (nI n)) .null .null .null)] := hD
  refine lv_aload_n hx hb dX0_init_25 rfl (lv_at hl 0 rfl) ?_
  refine lv_iconst (v := 4) hx hb dX0_init_26 (by decide) ?_
  refine va_put (D := D) (ci := 0) (v := .int 4) (ty := .int) (C := RX0) (T := TX0) (N := 20) hx hb hts hiX0 tyX0 tyX0_ok nmX0 hown hK.1 hP hD hS 0 rfl rfl 4 (by decide) (hts (.fieldLink RX0 22 "SledgeRace$Team" "pullers" "I") (by decide +kernel)) (fun _ h9 => h9) rfl (by decide +kernel) rfl rfl (Nat.le_of_ble_eq_true rfl) dX0_init_27 (fun H locs hP hD hS => ?_)
  have hP : va_P D vwCl [(h0, oTn (upd (upd (upd (upd (upd (fun _ => 0) 0 x) 1 y) 2 w) 3 (nI n)) 4 4) .null .null .null)] H := hP
  have hD : va_D A [(h0, oTn (upd (upd (upd (upd (upd (fun _ => 0) 0 x) 1 y) 2 w) 3 (nI n)) 4 4) .null .null .null)] := hD
  refine lv_aload_n hx hb dX0_init_30 rfl (lv_at hl 0 rfl) ?_
  refine lv_bipush (v := 10) hx hb dX0_init_31 (by decide) ?_
  refine va_put (D := D) (ci := 0) (v := .int 10) (ty := .int) (C := RX0) (T := TX0) (N := 20) hx hb hts hiX0 tyX0 tyX0_ok nmX0 hown hK.1 hP hD hS 0 rfl rfl 5 (by decide) (hts (.fieldLink RX0 25 "SledgeRace$Team" "strength" "I") (by decide +kernel)) (fun _ h9 => h9) rfl (by decide +kernel) rfl rfl (Nat.le_of_ble_eq_true rfl) dX0_init_33 (fun H locs hP hD hS => ?_)
  have hP : va_P D vwCl [(h0, oTn (upd (upd (upd (upd (upd (upd (fun _ => 0) 0 x) 1 y) 2 w) 3 (nI n)) 4 4) 5 10) .null .null .null)] H := hP
  have hD : va_D A [(h0, oTn (upd (upd (upd (upd (upd (upd (fun _ => 0) 0 x) 1 y) 2 w) 3 (nI n)) 4 4) 5 10) .null .null .null)] := hD
  refine lv_aload_n hx hb dX0_init_36 rfl (lv_at hl 0 rfl) ?_
  refine lv_iconst (v := 1) hx hb dX0_init_37 (by decide) ?_
  refine va_put (D := D) (ci := 0) (v := .int 1) (ty := .int) (C := RX0) (T := TX0) (N := 20) hx hb hts hiX0 tyX0 tyX0_ok nmX0 hown hK.1 hP hD hS 0 rfl rfl 6 (by decide) (hts (.fieldLink RX0 28 "SledgeRace$Team" "runners" "I") (by decide +kernel)) (fun _ h9 => h9) rfl (by decide +kernel) rfl rfl (Nat.le_of_ble_eq_true rfl) dX0_init_38 (fun H locs hP hD hS => ?_)
  have hP : va_P D vwCl [(h0, oTn (upd (upd (upd (upd (upd (upd (upd (fun _ => 0) 0 x) 1 y) 2 w) 3 (nI n)) 4 4) 5 10) 6 1) .null .null .null)] H := hP
  have hD : va_D A [(h0, oTn (upd (upd (upd (upd (upd (upd (upd (fun _ => 0) 0 x) 1 y) 2 w) 3 (nI n)) 4 4) 5 10) 6 1) .null .null .null)] := hD
  refine lv_aload_n hx hb dX0_init_41 rfl (lv_at hl 0 rfl) ?_
  refine lv_sipush (v := 200) hx hb dX0_init_42 (by decide) ?_
  refine va_put (D := D) (ci := 0) (v := .int 200) (ty := .int) (C := RX0) (T := TX0) (N := 20) hx hb hts hiX0 tyX0 tyX0_ok nmX0 hown hK.1 hP hD hS 0 rfl rfl 7 (by decide) (hts (.fieldLink RX0 31 "SledgeRace$Team" "wholeRope" "I") (by decide +kernel)) (fun _ h9 => h9) rfl (by decide +kernel) rfl rfl (Nat.le_of_ble_eq_true rfl) dX0_init_45 (fun H locs hP hD hS => ?_)
  have hP : va_P D vwCl [(h0, oTn (upd (upd (upd (upd (upd (upd (upd (upd (fun _ => 0) 0 x) 1 y) 2 w) 3 (nI n)) 4 4) 5 10) 6 1) 7 200) .null .null .null)] H := hP
  have hD : va_D A [(h0, oTn (upd (upd (upd (upd (upd (upd (upd (upd (fun _ => 0) 0 x) 1 y) 2 w) 3 (nI n)) 4 4) 5 10) 6 1) 7 200) .null .null .null)] := hD
  refine lv_aload_n hx hb dX0_init_48 rfl (lv_at hl 0 rfl) ?_
  refine lv_iconst (v := 5) hx hb dX0_init_49 (by decide) ?_
  refine va_put (D := D) (ci := 0) (v := .int 5) (ty := .int) (C := RX0) (T := TX0) (N := 20) hx hb hts hiX0 tyX0 tyX0_ok nmX0 hown hK.1 hP hD hS 0 rfl rfl 8 (by decide) (hts (.fieldLink RX0 34 "SledgeRace$Team" "effort" "I") (by decide +kernel)) (fun _ h9 => h9) rfl (by decide +kernel) rfl rfl (Nat.le_of_ble_eq_true rfl) dX0_init_50 (fun H locs hP hD hS => ?_)
  have hP : va_P D vwCl [(h0, oTn (upd (upd (upd (upd (upd (upd (upd (upd (upd (fun _ => 0) 0 x) 1 y) 2 w) 3 (nI n)) 4 4) 5 10) 6 1) 7 200) 8 5) .null .null .null)] H := hP
  have hD : va_D A [(h0, oTn (upd (upd (upd (upd (upd (upd (upd (upd (upd (fun _ => 0) 0 x) 1 y) 2 w) 3 (nI n)) 4 4) 5 10) 6 1) 7 200) 8 5) .null .null .null)] := hD
  refine lv_aload_n hx hb dX0_init_53 rfl (lv_at hl 0 rfl) ?_
  refine lv_bipush (v := 10) hx hb dX0_init_54 (by decide) ?_
  refine va_put (D := D) (ci := 0) (v := .int 10) (ty := .int) (C := RX0) (T := TX0) (N := 20) hx hb hts hiX0 tyX0 tyX0_ok nmX0 hown hK.1 hP hD hS 0 rfl rfl 9 (by decide) (hts (.fieldLink RX0 37 "SledgeRace$Team" "gap" "I") (by decide +kernel)) (fun _ h9 => h9) rfl (by decide +kernel) rfl rfl (Nat.le_of_ble_eq_true rfl) dX0_init_56 (fun H locs hP hD hS => ?_)
  have hP : va_P D vwCl [(h0, oTn (upd (upd (upd (upd (upd (upd (upd (upd (upd (upd (fun _ => 0) 0 x) 1 y) 2 w) 3 (nI n)) 4 4) 5 10) 6 1) 7 200) 8 5) 9 10) .null .null .null)] H := hP
  have hD : va_D A [(h0, oTn (upd (upd (upd (upd (upd (upd (upd (upd (upd (upd (fun _ => 0) 0 x) 1 y) 2 w) 3 (nI n)) 4 4) 5 10) 6 1) 7 200) 8 5) 9 10) .null .null .null)] := hD
  refine lv_aload_n hx hb dX0_init_59 rfl (lv_at hl 0 rfl) ?_
  refine lv_bipush (v := 8) hx hb dX0_init_60 (by decide) ?_
  refine sp_newa hx hb (hts (.arrayClass .int) (by decide +kernel)) hK hP hD hS hA 8 rfl (by decide) (Nat.le_of_ble_eq_true rfl) (Nat.le_of_ble_eq_true rfl) dX0_init_62 (fun q62 H hP hD hS => ?_)
  have hP : va_P D vwCl [(h0, oTn (upd (upd (upd (upd (upd (upd (upd (upd (upd (upd (fun _ => 0) 0 x) 1 y) 2 w) 3 (nI n)) 4 4) 5 10) 6 1) 7 200) 8 5) 9 10) .null .null .null), (q62, aI cI 8 (fun _ => 0))] H := hP
  have hD : va_D A [(h0, oTn (upd (upd (upd (upd (upd (upd (upd (upd (upd (upd (fun _ => 0) 0 x) 1 y) 2 w) 3 (nI n)) 4 4) 5 10) 6 1) 7 200) 8 5) 9 10) .null .null .null), (q62, aI cI 8 (fun _ => 0))] := hD
  refine va_putF (D := D) (ci := 0) (v := .ref q62) (ty := (.array .int)) (C := RX0) (T := TX0) (N := 20) hx hb hts hiX0 tyX0 tyX0_ok nmX0 hown hK.1 hP hD hS 0 rfl rfl 17 (by decide) (hts (.fieldLink RX0 40 "SledgeRace$Team" "places" "[I") (by decide +kernel)) (fun _ h9 => h9) rfl hin rfl (by decide +kernel) rfl rfl (Nat.le_of_ble_eq_true rfl) dX0_init_64 (fun H locs hP hD hS => ?_)
  have hP : va_P D vwCl [(h0, oTn (upd (upd (upd (upd (upd (upd (upd (upd (upd (upd (fun _ => 0) 0 x) 1 y) 2 w) 3 (nI n)) 4 4) 5 10) 6 1) 7 200) 8 5) 9 10) (.ref q62) .null .null), (q62, aI cI 8 (fun _ => 0))] H := hP
  have hD : va_D A [(h0, oTn (upd (upd (upd (upd (upd (upd (upd (upd (upd (upd (fun _ => 0) 0 x) 1 y) 2 w) 3 (nI n)) 4 4) 5 10) 6 1) 7 200) 8 5) 9 10) (.ref q62) .null .null), (q62, aI cI 8 (fun _ => 0))] := hD
  refine lv_aload_n hx hb dX0_init_67 rfl (lv_at hl 0 rfl) ?_
  refine lv_iconst (v := 3) hx hb dX0_init_68 (by decide) ?_
  refine sp_newa hx hb (hts (.arrayClass .int) (by decide +kernel)) hK hP hD hS hA 3 rfl (by decide) (Nat.le_of_ble_eq_true rfl) (Nat.le_of_ble_eq_true rfl) dX0_init_69 (fun q69 H hP hD hS => ?_)
  have hP : va_P D vwCl [(h0, oTn (upd (upd (upd (upd (upd (upd (upd (upd (upd (upd (fun _ => 0) 0 x) 1 y) 2 w) 3 (nI n)) 4 4) 5 10) 6 1) 7 200) 8 5) 9 10) (.ref q62) .null .null), (q62, aI cI 8 (fun _ => 0)), (q69, aI cI 3 (fun _ => 0))] H := hP
  have hD : va_D A [(h0, oTn (upd (upd (upd (upd (upd (upd (upd (upd (upd (upd (fun _ => 0) 0 x) 1 y) 2 w) 3 (nI n)) 4 4) 5 10) 6 1) 7 200) 8 5) 9 10) (.ref q62) .null .null), (q62, aI cI 8 (fun _ => 0)), (q69, aI cI 3 (fun _ => 0))] := hD
  refine va_putF (D := D) (ci := 0) (v := .ref q69) (ty := (.array .int)) (C := RX0) (T := TX0) (N := 20) hx hb hts hiX0 tyX0 tyX0_ok nmX0 hown hK.1 hP hD hS 0 rfl rfl 18 (by decide) (hts (.fieldLink RX0 44 "SledgeRace$Team" "loads" "[I") (by decide +kernel)) (fun _ h9 => h9) rfl hin rfl (by decide +kernel) rfl rfl (Nat.le_of_ble_eq_true rfl) dX0_init_71 (fun H locs hP hD hS => ?_)
  have hP : va_P D vwCl [(h0, oTn (upd (upd (upd (upd (upd (upd (upd (upd (upd (upd (fun _ => 0) 0 x) 1 y) 2 w) 3 (nI n)) 4 4) 5 10) 6 1) 7 200) 8 5) 9 10) (.ref q62) (.ref q69) .null), (q62, aI cI 8 (fun _ => 0)), (q69, aI cI 3 (fun _ => 0))] H := hP
  have hD : va_D A [(h0, oTn (upd (upd (upd (upd (upd (upd (upd (upd (upd (upd (fun _ => 0) 0 x) 1 y) 2 w) 3 (nI n)) 4 4) 5 10) 6 1) 7 200) 8 5) 9 10) (.ref q62) (.ref q69) .null), (q62, aI cI 8 (fun _ => 0)), (q69, aI cI 3 (fun _ => 0))] := hD
  refine lv_aload_n hx hb dX0_init_74 rfl (lv_at hl 0 rfl) ?_
  refine lv_iconst (v := 3) hx hb dX0_init_75 (by decide) ?_
  refine sp_newa hx hb (hts (.arrayClass .int) (by decide +kernel)) hK hP hD hS hA 3 rfl (by decide) (Nat.le_of_ble_eq_true rfl) (Nat.le_of_ble_eq_true rfl) dX0_init_76 (fun q76 H hP hD hS => ?_)
  have hP : va_P D vwCl [(h0, oTn (upd (upd (upd (upd (upd (upd (upd (upd (upd (upd (fun _ => 0) 0 x) 1 y) 2 w) 3 (nI n)) 4 4) 5 10) 6 1) 7 200) 8 5) 9 10) (.ref q62) (.ref q69) .null), (q62, aI cI 8 (fun _ => 0)), (q69, aI cI 3 (fun _ => 0)), (q76, aI cI 3 (fun _ => 0))] H := hP
  have hD : va_D A [(h0, oTn (upd (upd (upd (upd (upd (upd (upd (upd (upd (upd (fun _ => 0) 0 x) 1 y) 2 w) 3 (nI n)) 4 4) 5 10) 6 1) 7 200) 8 5) 9 10) (.ref q62) (.ref q69) .null), (q62, aI cI 8 (fun _ => 0)), (q69, aI cI 3 (fun _ => 0)), (q76, aI cI 3 (fun _ => 0))] := hD
  refine va_putF (D := D) (ci := 0) (v := .ref q76) (ty := (.array .int)) (C := RX0) (T := TX0) (N := 20) hx hb hts hiX0 tyX0 tyX0_ok nmX0 hown hK.1 hP hD hS 0 rfl rfl 19 (by decide) (hts (.fieldLink RX0 47 "SledgeRace$Team" "ticksToGo" "[I") (by decide +kernel)) (fun _ h9 => h9) rfl hin rfl (by decide +kernel) rfl rfl (Nat.le_of_ble_eq_true rfl) dX0_init_78 (fun H locs hP hD hS => ?_)
  have hP : va_P D vwCl [(h0, oT (upd (upd (upd (upd (upd (upd (upd (upd (upd (upd (fun _ => 0) 0 x) 1 y) 2 w) 3 (nI n)) 4 4) 5 10) 6 1) 7 200) 8 5) 9 10) q62 q69 q76), (q62, aI cI 8 (fun _ => 0)), (q69, aI cI 3 (fun _ => 0)), (q76, aI cI 3 (fun _ => 0))] H := hP
  have hD : va_D A [(h0, oT (upd (upd (upd (upd (upd (upd (upd (upd (upd (upd (fun _ => 0) 0 x) 1 y) 2 w) 3 (nI n)) 4 4) 5 10) 6 1) 7 200) 8 5) 9 10) q62 q69 q76), (q62, aI cI 8 (fun _ => 0)), (q69, aI cI 3 (fun _ => 0)), (q76, aI cI 3 (fun _ => 0))] := hD
  refine lv_aload_n hx hb dX0_init_81 rfl (lv_at hl 0 rfl) ?_
  refine sp_vV (rest := []) (As := []) (W1 := [(h0, oT (cStartF (upd (upd (upd (upd (upd (upd (upd (upd (upd (upd (fun _ => 0) 0 x) 1 y) 2 w) 3 (nI n)) 4 4) 5 10) 6 1) 7 200) 8 5) 9 10)) q62 q69 q76), (q62, aI cI 8 (cStartP (upd (upd (upd (upd (upd (upd (upd (upd (upd (upd (fun _ => 0) 0 x) 1 y) 2 w) 3 (nI n)) 4 4) 5 10) 6 1) 7 200) 8 5) 9 10) (fun _ => 0) n n)), (q69, aI cI 3 (cFill (fun _ => 0) (-1) 3)), (q76, aI cI 3 (cFill (fun _ => 0) 0 3))]) ⟨hx, hb, hml, hown, hts⟩ (mX0_goToStart l D cI cT h0 q62 q69 q76 (upd (upd (upd (upd (upd (upd (upd (upd (upd (upd (fun _ => 0) 0 x) 1 y) 2 w) 3 (nI n)) 4 4) 5 10) 6 1) 7 200) 8 5) 9 10) (fun _ => 0) (fun _ => 0) (fun _ => 0) n hn (by rfl)) (cwV 0 hts gX0_init_X0_goToStart rfl rfl rfl (by decide +kernel) ⟨Nat.le_of_ble_eq_true rfl, Nat.le_of_ble_eq_true rfl⟩) hK hP hD hS [0, 1, 2, 3] rfl (fun k q h => by simp at h) (sp_nsub (sp_nod2 hD) [0, 1, 2, 3] (by decide) rfl) rfl rfl rfl (ci := 0) rfl rfl rfl rfl hl.1 rfl (Nat.le_of_ble_eq_true rfl) dX0_init_82 ⟨Nat.le_of_ble_eq_true rfl, Nat.le_of_ble_eq_true rfl⟩ (fun H locs hP hD hS => ?_)
  subst hQ
  have hP9 : va_P D vwCl ((fun u => [(h0, oT (cStartF (cNewF x y w n)) (u.getD 0 0) (u.getD 1 0) (u.getD 2 0)), ((u.getD 0 0), aI cI 8 (cStartP (cNewF x y w n) (fun _ => 0) n n)), ((u.getD 1 0), aI cI 3 (cFill (fun _ => 0) (-1) 3)), ((u.getD 2 0), aI cI 3 (cFill (fun _ => 0) 0 3))]) [q62, q69, q76]) H := hP
  subst hAe
  exact W.vret hx hb hr (fun t ht hW => ⟨⟨[q62, q69, q76], rfl, rfl, by show va_P D vwCl _ t.heap; rw [ht]; exact hP9, hD⟩, hS.F ht⟩) hS.2.2 dX0_init_85

abbrev rmX2_init : Room := { frames := 2, cells := 13, slots := 115, locals := 45 }
set_option maxHeartbeats 4000000 in
set_option maxRecDepth 100000 in
/-- a new race -/
theorem mX2_init (l : Launch) (D : va_G) (cI cT : ClassId) (sz h0 : Nat) : MetVB l D cI cT yX2_init wsX2_init rmX2_init [.ref h0] [(h0, oRn .null .null .null .null 0 0)] [] (fun u => [(h0, oR (u.getD 0 0) (u.getD 4 0) (u.getD 5 0) (u.getD 9 0) 0 0), ((u.getD 0 0), oK cTrackF (u.getD 1 0) (u.getD 2 0) (u.getD 3 0)), ((u.getD 1 0), aI cI 12 (fun _ => 0)), ((u.getD 2 0), aI cI 12 (fun _ => 0)), ((u.getD 3 0), aI cI 12 (upd (fun _ => 0) 0 2)), ((u.getD 4 0), aQ cT 6 (fun _ => none)), ((u.getD 5 0), oT (cStartF (cNewF 0 20 10 2)) (u.getD 6 0) (u.getD 7 0) (u.getD 8 0)), ((u.getD 6 0), aI cI 8 (cStartP (cNewF 0 20 10 2) (fun _ => 0) 2 2)), ((u.getD 7 0), aI cI 3 (cFill (fun _ => 0) (-1) 3)), ((u.getD 8 0), aI cI 3 (cFill (fun _ => 0) 0 3)), ((u.getD 9 0), oT (cStartF (cNewF 0 20 10 2)) (u.getD 10 0) (u.getD 11 0) (u.getD 12 0)), ((u.getD 10 0), aI cI 8 (cStartP (cNewF 0 20 10 2) (fun _ => 0) 2 2)), ((u.getD 11 0), aI cI 3 (cFill (fun _ => 0) (-1) 3)), ((u.getD 12 0), aI cI 3 (cFill (fun _ => 0) 0 3))]) 13 13 115 sz := by
  refine Met.ofW (cc := cX2_init) (maxL := 1) (ret := none) (by decide) rfl ?_
  intro p e s m args below meth c s₁ B hml hv
  obtain ⟨⟨hargs, hsz, hP, hR0, hK, hN⟩, hAO⟩ := hv
  have hx := B.exec
  have hb := B.bytes
  have hr := B.returns
  have hts := atoms_spec (ws := wsX2_init) B.pre
  have hown : s.vm.findClass RX2 = some m.cls := findClass_of_methodNamed B.named
  have hlocks := B.notSynchronized
  have hin : meth.name = "<init>" := (name_of_methodNamed B.named B.method).1
  have hiX0 : ∀ w ∈ u_ws RX0 TX0 20, w ∈ wsX2_init := by decide +kernel
  have hiX1 : ∀ w ∈ u_ws RX1 TX1 5, w ∈ wsX2_init := by decide +kernel
  have hiX2 : ∀ w ∈ u_ws RX2 TX2 6, w ∈ wsX2_init := by decide +kernel
  have he : entryFrame m args 1 = F0 m 0 ((lg_sl [.ref h0] ++ List.replicate (1 - (lg_sl [.ref h0]).length) Slot.unset).toArray) [] := by rw [hargs]; exact lg_entry_eq m _ _
  rw [he]
  change W p l e rmX2_init s m args below meth c s.heap [] 0 0 (MQ below (va_Qv (S := List Nat) (fun u => u.length = 13) (fun u t => va_P D vwCl ((fun u => [(h0, oR (u.getD 0 0) (u.getD 4 0) (u.getD 5 0) (u.getD 9 0) 0 0), ((u.getD 0 0), oK cTrackF (u.getD 1 0) (u.getD 2 0) (u.getD 3 0)), ((u.getD 1 0), aI cI 12 (fun _ => 0)), ((u.getD 2 0), aI cI 12 (fun _ => 0)), ((u.getD 3 0), aI cI 12 (upd (fun _ => 0) 0 2)), ((u.getD 4 0), aQ cT 6 (fun _ => none)), ((u.getD 5 0), oT (cStartF (cNewF 0 20 10 2)) (u.getD 6 0) (u.getD 7 0) (u.getD 8 0)), ((u.getD 6 0), aI cI 8 (cStartP (cNewF 0 20 10 2) (fun _ => 0) 2 2)), ((u.getD 7 0), aI cI 3 (cFill (fun _ => 0) (-1) 3)), ((u.getD 8 0), aI cI 3 (cFill (fun _ => 0) 0 3)), ((u.getD 9 0), oT (cStartF (cNewF 0 20 10 2)) (u.getD 10 0) (u.getD 11 0) (u.getD 12 0)), ((u.getD 10 0), aI cI 8 (cStartP (cNewF 0 20 10 2) (fun _ => 0) 2 2)), ((u.getD 11 0), aI cI 3 (cFill (fun _ => 0) (-1) 3)), ((u.getD 12 0), aI cI 3 (cFill (fun _ => 0) 0 3))]) u) t.heap ∧ va_D (frA (List.map Prod.fst [(h0, oRn .null .null .null .null 0 0)]) sz) ((fun u => [(h0, oR (u.getD 0 0) (u.getD 4 0) (u.getD 5 0) (u.getD 9 0) 0 0), ((u.getD 0 0), oK cTrackF (u.getD 1 0) (u.getD 2 0) (u.getD 3 0)), ((u.getD 1 0), aI cI 12 (fun _ => 0)), ((u.getD 2 0), aI cI 12 (fun _ => 0)), ((u.getD 3 0), aI cI 12 (upd (fun _ => 0) 0 2)), ((u.getD 4 0), aQ cT 6 (fun _ => none)), ((u.getD 5 0), oT (cStartF (cNewF 0 20 10 2)) (u.getD 6 0) (u.getD 7 0) (u.getD 8 0)), ((u.getD 6 0), aI cI 8 (cStartP (cNewF 0 20 10 2) (fun _ => 0) 2 2)), ((u.getD 7 0), aI cI 3 (cFill (fun _ => 0) (-1) 3)), ((u.getD 8 0), aI cI 3 (cFill (fun _ => 0) 0 3)), ((u.getD 9 0), oT (cStartF (cNewF 0 20 10 2)) (u.getD 10 0) (u.getD 11 0) (u.getD 12 0)), ((u.getD 10 0), aI cI 8 (cStartP (cNewF 0 20 10 2) (fun _ => 0) 2 2)), ((u.getD 11 0), aI cI 3 (cFill (fun _ => 0) (-1) 3)), ((u.getD 12 0), aI cI 3 (cFill (fun _ => 0) 0 3))]) u)) (frA (List.map Prod.fst [(h0, oRn .null .null .null .null 0 0)]) sz)) args s 13 115 (frA (List.map Prod.fst [(h0, oRn .null .null .null .null 0 0)]) sz)) _
  obtain ⟨Q, hQ⟩ : ∃ Q, Q = MQ below (va_Qv (S := List Nat) (fun u => u.length = 13) (fun u t => va_P D vwCl ((fun u => [(h0, oR (u.getD 0 0) (u.getD 4 0) (u.getD 5 0) (u.getD 9 0) 0 0), ((u.getD 0 0), oK cTrackF (u.getD 1 0) (u.getD 2 0) (u.getD 3 0)), ((u.getD 1 0), aI cI 12 (fun _ => 0)), ((u.getD 2 0), aI cI 12 (fun _ => 0)), ((u.getD 3 0), aI cI 12 (upd (fun _ => 0) 0 2)), ((u.getD 4 0), aQ cT 6 (fun _ => none)), ((u.getD 5 0), oT (cStartF (cNewF 0 20 10 2)) (u.getD 6 0) (u.getD 7 0) (u.getD 8 0)), ((u.getD 6 0), aI cI 8 (cStartP (cNewF 0 20 10 2) (fun _ => 0) 2 2)), ((u.getD 7 0), aI cI 3 (cFill (fun _ => 0) (-1) 3)), ((u.getD 8 0), aI cI 3 (cFill (fun _ => 0) 0 3)), ((u.getD 9 0), oT (cStartF (cNewF 0 20 10 2)) (u.getD 10 0) (u.getD 11 0) (u.getD 12 0)), ((u.getD 10 0), aI cI 8 (cStartP (cNewF 0 20 10 2) (fun _ => 0) 2 2)), ((u.getD 11 0), aI cI 3 (cFill (fun _ => 0) (-1) 3)), ((u.getD 12 0), aI cI 3 (cFill (fun _ => 0) 0 3))]) u) t.heap ∧ va_D (frA (List.map Prod.fst [(h0, oRn .null .null .null .null 0 0)]) sz) ((fun u => [(h0, oR (u.getD 0 0) (u.getD 4 0) (u.getD 5 0) (u.getD 9 0) 0 0), ((u.getD 0 0), oK cTrackF (u.getD 1 0) (u.getD 2 0) (u.getD 3 0)), ((u.getD 1 0), aI cI 12 (fun _ => 0)), ((u.getD 2 0), aI cI 12 (fun _ => 0)), ((u.getD 3 0), aI cI 12 (upd (fun _ => 0) 0 2)), ((u.getD 4 0), aQ cT 6 (fun _ => none)), ((u.getD 5 0), oT (cStartF (cNewF 0 20 10 2)) (u.getD 6 0) (u.getD 7 0) (u.getD 8 0)), ((u.getD 6 0), aI cI 8 (cStartP (cNewF 0 20 10 2) (fun _ => 0) 2 2)), ((u.getD 7 0), aI cI 3 (cFill (fun _ => 0) (-1) 3)), ((u.getD 8 0), aI cI 3 (cFill (fun _ => 0) 0 3)), ((u.getD 9 0), oT (cStartF (cNewF 0 20 10 2)) (u.getD 10 0) (u.getD 11 0) (u.getD 12 0)), ((u.getD 10 0), aI cI 8 (cStartP (cNewF 0 20 10 2) (fun _ => 0) 2 2)), ((u.getD 11 0), aI cI 3 (cFill (fun _ => 0) (-1) 3)), ((u.getD 12 0), aI cI 3 (cFill (fun _ => 0) 0 3))]) u)) (frA (List.map Prod.fst [(h0, oRn .null .null .null .null 0 0)]) sz)) args s 13 115 (frA (List.map Prod.fst [(h0, oRn .null .null .null .null 0 0)]) sz) := ⟨_, rfl⟩
  rw [← hQ]
  have hl := lv_entry [.ref h0] (n := 1) (Nat.le_of_ble_eq_true rfl)
  generalize (lg_sl [.ref h0] ++ List.replicate (1 - (lg_sl [.ref h0]).length) Slot.unset).toArray = ls at hl ⊢
  have hl : lv_has ls 1 [(0, .ref h0)] := hl
  obtain ⟨A, hAe⟩ : ∃ A, A = (frA (List.map Prod.fst [(h0, oRn .null .null .null .null 0 0)]) sz) := ⟨_, rfl⟩
  have hA0 : ∀ q ∈ List.map Prod.fst [(h0, oRn .null .null .null .null 0 0)], A q := by rw [hAe]; exact fun q h => Or.inl h
  subst hsz
  have hA : ∀ q : Nat, s.heap.size ≤ q → A q := by rw [hAe]; exact fun q h => Or.inr h
  have hD : va_D A [(h0, oRn .null .null .null .null 0 0)] := sp_D (List.nodup_append.mp (show (([(h0, oRn .null .null .null .null 0 0)] : va_W).map Prod.fst ++ ([] : va_W).map Prod.fst).Nodup by rw [← List.map_append]; exact hN)).1 hA0
  have hN : (List.map Prod.fst ([(h0, oRn .null .null .null .null 0 0)] ++ []) : List Nat).Nodup := hN
  have hS : va_S A s.heap s.heap [] := va_S.rf
  obtain ⟨H, hH0⟩ : ∃ H, H = s.heap := ⟨_, rfl⟩
  obtain ⟨locs, hlo⟩ : ∃ L : List Loc, L = [] := ⟨_, rfl⟩
  have hP : va_P D vwCl [(h0, oRn .null .null .null .null 0 0)] H := by rw [hH0]; exact hP
  have hS : va_S A s.heap H locs := by rw [hH0, hlo]; exact hS
  rw [show W p l e rmX2_init s m args below meth c s.heap [] 0 0 Q (F0 m 0 ls []) = W p l e rmX2_init s m args below meth c H locs 0 0 Q (F0 m 0 ls []) by rw [hH0, hlo]]
  clear hH0 hlo
  refine lv_aload_n hx hb dX2_init_0 rfl (lv_at hl 0 rfl) ?_
  refine W.objInit hx hb hown (hts (.methodLink RX2 1 objectInit) (by decide +kernel)) (hts (.instanceMethod objectInit) (by decide +kernel)) (hts _ (List.mem_of_getElem? (i := 3) rfl)) rfl (by rw [hml]; exact hl.1) rfl dX2_init_1 (Nat.le_of_ble_eq_true rfl) (Nat.le_of_ble_eq_true rfl) ?_
  refine W.eq (g2 := F0 m 4 ls []) rfl ?_
  refine lv_aload_n hx hb dX2_init_4 rfl (lv_at hl 0 rfl) ?_
  refine va_new (ci := 1) (fs := [.null, .null, .null, .int 0, .int 0]) (C := RX1) (T := TX1) (N := 5) hx hb hts hiX1 tyX1 tyX1_ok hown (hts (.classLink RX2 7 RX1) (by decide +kernel)) (hts (.instantiable RX1 5) (by decide +kernel)) (hts (.initialized RX1) (by decide +kernel)) hK.1 hP hD hS hA rfl (fun j hj => match j, hj with | 0, _ => rfl | 1, _ => rfl | 2, _ => rfl | 3, _ => rfl | 4, _ => rfl | _ + 5, h => absurd h (by omega)) (Nat.le_of_ble_eq_true rfl) (Nat.le_of_ble_eq_true rfl) dX2_init_5 (fun q5 H hP hD hS => ?_)
  have hP : va_P D vwCl [(h0, oRn .null .null .null .null 0 0), (q5, oKn (fun _ => 0) .null .null .null)] H := hP
  have hD : va_D A [(h0, oRn .null .null .null .null 0 0), (q5, oKn (fun _ => 0) .null .null .null)] := hD
  refine lv_dup hx hb dX2_init_8 rfl ?_
  refine sp_iN (rest := [.ref q5, .ref h0]) (As := []) (wr := [(h0, oRn .null .null .null .null 0 0)]) ⟨hx, hb, hml, hown, hts⟩ (mX1_init l D cI cT H.size q5) (cwI 0 hts gX2_init_X1_init rfl rfl rfl (hts (.initialized RX1) (by decide +kernel)) (hts (.methodLink RX2 9 yX1_init) (by decide +kernel)) (hts (.instanceMethod yX1_init) (by decide +kernel)) rfl (by decide +kernel) ⟨Nat.le_of_ble_eq_true rfl, Nat.le_of_ble_eq_true rfl⟩) hK hP hD hS hA [1] [0] rfl rfl (by decide) (by decide) (fun k q h => by simp at h) (by simp) rfl hl.1 rfl (Nat.le_of_ble_eq_true rfl) dX2_init_9 ⟨Nat.le_of_ble_eq_true rfl, Nat.le_of_ble_eq_true rfl⟩ (fun u H locs hu hP hD hS => ?_)
  obtain ⟨k9a, k9b, k9c, rfl⟩ := len3 hu
  have hP : va_P D vwCl [(h0, oRn .null .null .null .null 0 0), (q5, oK cTrackF k9a k9b k9c), (k9a, aI cI 12 (fun _ => 0)), (k9b, aI cI 12 (fun _ => 0)), (k9c, aI cI 12 (upd (fun _ => 0) 0 2))] H := hP
  have hD : va_D A [(h0, oRn .null .null .null .null 0 0), (q5, oK cTrackF k9a k9b k9c), (k9a, aI cI 12 (fun _ => 0)), (k9b, aI cI 12 (fun _ => 0)), (k9c, aI cI 12 (upd (fun _ => 0) 0 2))] := hD
  refine va_putF (D := D) (ci := 2) (v := .ref q5) (ty := (.object "SledgeRace$Track")) (C := RX2) (T := TX2) (N := 6) hx hb hts hiX2 tyX2 tyX2_ok nmX2 hown hK.1 hP hD hS 0 rfl rfl 0 (by decide) (hts (.fieldLink RX2 10 "SledgeRace" "track" "LSledgeRace$Track;") (by decide +kernel)) (fun _ h9 => h9) rfl hin rfl (by decide +kernel) rfl rfl (Nat.le_of_ble_eq_true rfl) dX2_init_12 (fun H locs hP hD hS => ?_)
  have hP : va_P D vwCl [(h0, oRn (.ref q5) .null .null .null 0 0), (q5, oK cTrackF k9a k9b k9c), (k9a, aI cI 12 (fun _ => 0)), (k9b, aI cI 12 (fun _ => 0)), (k9c, aI cI 12 (upd (fun _ => 0) 0 2))] H := hP
  have hD : va_D A [(h0, oRn (.ref q5) .null .null .null 0 0), (q5, oK cTrackF k9a k9b k9c), (k9a, aI cI 12 (fun _ => 0)), (k9b, aI cI 12 (fun _ => 0)), (k9c, aI cI 12 (upd (fun _ => 0) 0 2))] := hD
  refine lv_aload_n hx hb dX2_init_15 rfl (lv_at hl 0 rfl) ?_
  refine lv_bipush (v := 6) hx hb dX2_init_16 (by decide) ?_
  refine sp_newq hx hb hown (hts (.classLink RX2 16 RX0) (by decide +kernel)) hAO hK hP hD hS hA 6 rfl (by decide) (Nat.le_of_ble_eq_true rfl) (Nat.le_of_ble_eq_true rfl) dX2_init_18 (fun q18 H hP hD hS => ?_)
  have hP : va_P D vwCl [(h0, oRn (.ref q5) .null .null .null 0 0), (q5, oK cTrackF k9a k9b k9c), (k9a, aI cI 12 (fun _ => 0)), (k9b, aI cI 12 (fun _ => 0)), (k9c, aI cI 12 (upd (fun _ => 0) 0 2)), (q18, aQ cT 6 (fun _ => none))] H := hP
  have hD : va_D A [(h0, oRn (.ref q5) .null .null .null 0 0), (q5, oK cTrackF k9a k9b k9c), (k9a, aI cI 12 (fun _ => 0)), (k9b, aI cI 12 (fun _ => 0)), (k9c, aI cI 12 (upd (fun _ => 0) 0 2)), (q18, aQ cT 6 (fun _ => none))] := hD
  refine va_putF (D := D) (ci := 2) (v := .ref q18) (ty := (.array (.object "SledgeRace$Team"))) (C := RX2) (T := TX2) (N := 6) hx hb hts hiX2 tyX2 tyX2_ok nmX2 hown hK.1 hP hD hS 0 rfl rfl 1 (by decide) (hts (.fieldLink RX2 18 "SledgeRace" "teams" "[LSledgeRace$Team;") (by decide +kernel)) (fun _ h9 => h9) rfl hin rfl (by decide +kernel) rfl rfl (Nat.le_of_ble_eq_true rfl) dX2_init_21 (fun H locs hP hD hS => ?_)
  have hP : va_P D vwCl [(h0, oRn (.ref q5) (.ref q18) .null .null 0 0), (q5, oK cTrackF k9a k9b k9c), (k9a, aI cI 12 (fun _ => 0)), (k9b, aI cI 12 (fun _ => 0)), (k9c, aI cI 12 (upd (fun _ => 0) 0 2)), (q18, aQ cT 6 (fun _ => none))] H := hP
  have hD : va_D A [(h0, oRn (.ref q5) (.ref q18) .null .null 0 0), (q5, oK cTrackF k9a k9b k9c), (k9a, aI cI 12 (fun _ => 0)), (k9b, aI cI 12 (fun _ => 0)), (k9c, aI cI 12 (upd (fun _ => 0) 0 2)), (q18, aQ cT 6 (fun _ => none))] := hD
  refine lv_aload_n hx hb dX2_init_24 rfl (lv_at hl 0 rfl) ?_
  refine va_new (ci := 0) (fs := [.int 0, .int 0, .int 0, .int 0, .int 0, .int 0, .int 0, .int 0, .int 0, .int 0, .int 0, .int 0, .int 0, .int 0, .int 0, .int 0, .int 0, .null, .null, .null]) (C := RX0) (T := TX0) (N := 20) hx hb hts hiX0 tyX0 tyX0_ok hown (hts (.classLink RX2 16 RX0) (by decide +kernel)) (hts (.instantiable RX0 20) (by decide +kernel)) (hts (.initialized RX0) (by decide +kernel)) hK.1 hP hD hS hA rfl (fun j hj => match j, hj with | 0, _ => rfl | 1, _ => rfl | 2, _ => rfl | 3, _ => rfl | 4, _ => rfl | 5, _ => rfl | 6, _ => rfl | 7, _ => rfl | 8, _ => rfl | 9, _ => rfl | 10, _ => rfl | 11, _ => rfl | 12, _ => rfl | 13, _ => rfl | 14, _ => rfl | 15, _ => rfl | 16, _ => rfl | 17, _ => rfl | 18, _ => rfl | 19, _ => rfl | _ + 20, h => absurd h (by omega)) (Nat.le_of_ble_eq_true rfl) (Nat.le_of_ble_eq_true rfl) dX2_init_25 (fun q25 H hP hD hS => ?_)
  have hP : va_P D vwCl [(h0, oRn (.ref q5) (.ref q18) .null .null 0 0), (q5, oK cTrackF k9a k9b k9c), (k9a, aI cI 12 (fun _ => 0)), (k9b, aI cI 12 (fun _ => 0)), (k9c, aI cI 12 (upd (fun _ => 0) 0 2)), (q18, aQ cT 6 (fun _ => none)), (q25, oTn (fun _ => 0) .null .null .null)] H := hP
  have hD : va_D A [(h0, oRn (.ref q5) (.ref q18) .null .null 0 0), (q5, oK cTrackF k9a k9b k9c), (k9a, aI cI 12 (fun _ => 0)), (k9b, aI cI 12 (fun _ => 0)), (k9c, aI cI 12 (upd (fun _ => 0) 0 2)), (q18, aQ cT 6 (fun _ => none)), (q25, oTn (fun _ => 0) .null .null .null)] := hD
  refine lv_dup hx hb dX2_init_28 rfl ?_
  refine lv_iconst (v := 0) hx hb dX2_init_29 (by decide) ?_
  refine lv_bipush (v := 20) hx hb dX2_init_30 (by decide) ?_
  refine lv_bipush (v := 10) hx hb dX2_init_32 (by decide) ?_
  refine lv_iconst (v := 2) hx hb dX2_init_34 (by decide) ?_
  refine sp_iN (rest := [.ref q25, .ref h0]) (As := [.int 0, .int 20, .int 10, .int 2]) (wr := [(h0, oRn (.ref q5) (.ref q18) .null .null 0 0), (q5, oK cTrackF k9a k9b k9c), (k9a, aI cI 12 (fun _ => 0)), (k9b, aI cI 12 (fun _ => 0)), (k9c, aI cI 12 (upd (fun _ => 0) 0 2)), (q18, aQ cT 6 (fun _ => none))]) ⟨hx, hb, hml, hown, hts⟩ (mX0_init l D cI cT H.size q25 0 20 10 2 (by decide)) (cwI 4 hts gX2_init_X0_init rfl rfl rfl (hts (.initialized RX0) (by decide +kernel)) (hts (.methodLink RX2 22 yX0_init) (by decide +kernel)) (hts (.instanceMethod yX0_init) (by decide +kernel)) rfl (by decide +kernel) ⟨Nat.le_of_ble_eq_true rfl, Nat.le_of_ble_eq_true rfl⟩) hK hP hD hS hA [6] [0, 1, 2, 3, 4, 5] rfl rfl (by decide) (by decide) (fun k q h => by simp at h) (by simp) rfl hl.1 rfl (Nat.le_of_ble_eq_true rfl) dX2_init_35 ⟨Nat.le_of_ble_eq_true rfl, Nat.le_of_ble_eq_true rfl⟩ (fun u H locs hu hP hD hS => ?_)
  obtain ⟨k35a, k35b, k35c, rfl⟩ := len3 hu
  have hP : va_P D vwCl [(h0, oRn (.ref q5) (.ref q18) .null .null 0 0), (q5, oK cTrackF k9a k9b k9c), (k9a, aI cI 12 (fun _ => 0)), (k9b, aI cI 12 (fun _ => 0)), (k9c, aI cI 12 (upd (fun _ => 0) 0 2)), (q18, aQ cT 6 (fun _ => none)), (q25, oT (cStartF (cNewF 0 20 10 2)) k35a k35b k35c), (k35a, aI cI 8 (cStartP (cNewF 0 20 10 2) (fun _ => 0) 2 2)), (k35b, aI cI 3 (cFill (fun _ => 0) (-1) 3)), (k35c, aI cI 3 (cFill (fun _ => 0) 0 3))] H := hP
  have hD : va_D A [(h0, oRn (.ref q5) (.ref q18) .null .null 0 0), (q5, oK cTrackF k9a k9b k9c), (k9a, aI cI 12 (fun _ => 0)), (k9b, aI cI 12 (fun _ => 0)), (k9c, aI cI 12 (upd (fun _ => 0) 0 2)), (q18, aQ cT 6 (fun _ => none)), (q25, oT (cStartF (cNewF 0 20 10 2)) k35a k35b k35c), (k35a, aI cI 8 (cStartP (cNewF 0 20 10 2) (fun _ => 0) 2 2)), (k35b, aI cI 3 (cFill (fun _ => 0) (-1) 3)), (k35c, aI cI 3 (cFill (fun _ => 0) 0 3))] := hD
  refine va_putF (D := D) (ci := 2) (v := .ref q25) (ty := (.object "SledgeRace$Team")) (C := RX2) (T := TX2) (N := 6) hx hb hts hiX2 tyX2 tyX2_ok nmX2 hown hK.1 hP hD hS 0 rfl rfl 2 (by decide) (hts (.fieldLink RX2 25 "SledgeRace" "trial" "LSledgeRace$Team;") (by decide +kernel)) (fun _ h9 => h9) rfl hin rfl (by decide +kernel) rfl rfl (Nat.le_of_ble_eq_true rfl) dX2_init_38 (fun H locs hP hD hS => ?_)
  have hP : va_P D vwCl [(h0, oRn (.ref q5) (.ref q18) (.ref q25) .null 0 0), (q5, oK cTrackF k9a k9b k9c), (k9a, aI cI 12 (fun _ => 0)), (k9b, aI cI 12 (fun _ => 0)), (k9c, aI cI 12 (upd (fun _ => 0) 0 2)), (q18, aQ cT 6 (fun _ => none)), (q25, oT (cStartF (cNewF 0 20 10 2)) k35a k35b k35c), (k35a, aI cI 8 (cStartP (cNewF 0 20 10 2) (fun _ => 0) 2 2)), (k35b, aI cI 3 (cFill (fun _ => 0) (-1) 3)), (k35c, aI cI 3 (cFill (fun _ => 0) 0 3))] H := hP
  have hD : va_D A [(h0, oRn (.ref q5) (.ref q18) (.ref q25) .null 0 0), (q5, oK cTrackF k9a k9b k9c), (k9a, aI cI 12 (fun _ => 0)), (k9b, aI cI 12 (fun _ => 0)), (k9c, aI cI 12 (upd (fun _ => 0) 0 2)), (q18, aQ cT 6 (fun _ => none)), (q25, oT (cStartF (cNewF 0 20 10 2)) k35a k35b k35c), (k35a, aI cI 8 (cStartP (cNewF 0 20 10 2) (fun _ => 0) 2 2)), (k35b, aI cI 3 (cFill (fun _ => 0) (-1) 3)), (k35c, aI cI 3 (cFill (fun _ => 0) 0 3))] := hD
  refine lv_aload_n hx hb dX2_init_41 rfl (lv_at hl 0 rfl) ?_
  refine va_new (ci := 0) (fs := [.int 0, .int 0, .int 0, .int 0, .int 0, .int 0, .int 0, .int 0, .int 0, .int 0, .int 0, .int 0, .int 0, .int 0, .int 0, .int 0, .int 0, .null, .null, .null]) (C := RX0) (T := TX0) (N := 20) hx hb hts hiX0 tyX0 tyX0_ok hown (hts (.classLink RX2 16 RX0) (by decide +kernel)) (hts (.instantiable RX0 20) (by decide +kernel)) (hts (.initialized RX0) (by decide +kernel)) hK.1 hP hD hS hA rfl (fun j hj => match j, hj with | 0, _ => rfl | 1, _ => rfl | 2, _ => rfl | 3, _ => rfl | 4, _ => rfl | 5, _ => rfl | 6, _ => rfl | 7, _ => rfl | 8, _ => rfl | 9, _ => rfl | 10, _ => rfl | 11, _ => rfl | 12, _ => rfl | 13, _ => rfl | 14, _ => rfl | 15, _ => rfl | 16, _ => rfl | 17, _ => rfl | 18, _ => rfl | 19, _ => rfl | _ + 20, h => absurd h (by omega)) (Nat.le_of_ble_eq_true rfl) (Nat.le_of_ble_eq_true rfl) dX2_init_42 (fun q42 H hP hD hS => ?_)
  have hP : va_P D vwCl [(h0, oRn (.ref q5) (.ref q18) (.ref q25) .null 0 0), (q5, oK cTrackF k9a k9b k9c), (k9a, aI cI 12 (fun _ => 0)), (k9b, aI cI 12 (fun _ => 0)), (k9c, aI cI 12 (upd (fun _ => 0) 0 2)), (q18, aQ cT 6 (fun _ => none)), (q25, oT (cStartF (cNewF 0 20 10 2)) k35a k35b k35c), (k35a, aI cI 8 (cStartP (cNewF 0 20 10 2) (fun _ => 0) 2 2)), (k35b, aI cI 3 (cFill (fun _ => 0) (-1) 3)), (k35c, aI cI 3 (cFill (fun _ => 0) 0 3)), (q42, oTn (fun _ => 0) .null .null .null)] H := hP
  have hD : va_D A [(h0, oRn (.ref q5) (.ref q18) (.ref q25) .null 0 0), (q5, oK cTrackF k9a k9b k9c), (k9a, aI cI 12 (fun _ => 0)), (k9b, aI cI 12 (fun _ => 0)), (k9c, aI cI 12 (upd (fun _ => 0) 0 2)), (q18, aQ cT 6 (fun _ => none)), (q25, oT (cStartF (cNewF 0 20 10 2)) k35a k35b k35c), (k35a, aI cI 8 (cStartP (cNewF 0 20 10 2) (fun _ => 0) 2 2)), (k35b, aI cI 3 (cFill (fun _ => 0) (-1) 3)), (k35c, aI cI 3 (cFill (fun _ => 0) 0 3)), (q42, oTn (fun _ => 0) .null .null .null)] := hD
  refine lv_dup hx hb dX2_init_45 rfl ?_
  refine lv_iconst (v := 0) hx hb dX2_init_46 (by decide) ?_
  refine lv_bipush (v := 20) hx hb dX2_init_47 (by decide) ?_
  refine lv_bipush (v := 10) hx hb dX2_init_49 (by decide) ?_
  refine lv_iconst (v := 2) hx hb dX2_init_51 (by decide) ?_
  refine sp_iN (rest := [.ref q42, .ref h0]) (As := [.int 0, .int 20, .int 10, .int 2]) (wr := [(h0, oRn (.ref q5) (.ref q18) (.ref q25) .null 0 0), (q5, oK cTrackF k9a k9b k9c), (k9a, aI cI 12 (fun _ => 0)), (k9b, aI cI 12 (fun _ => 0)), (k9c, aI cI 12 (upd (fun _ => 0) 0 2)), (q18, aQ cT 6 (fun _ => none)), (q25, oT (cStartF (cNewF 0 20 10 2)) k35a k35b k35c), (k35a, aI cI 8 (cStartP (cNewF 0 20 10 2) (fun _ => 0) 2 2)), (k35b, aI cI 3 (cFill (fun _ => 0) (-1) 3)), (k35c, aI cI 3 (cFill (fun _ => 0) 0 3))]) ⟨hx, hb, hml, hown, hts⟩ (mX0_init l D cI cT H.size q42 0 20 10 2 (by decide)) (cwI 4 hts gX2_init_X0_init rfl rfl rfl (hts (.initialized RX0) (by decide +kernel)) (hts (.methodLink RX2 22 yX0_init) (by decide +kernel)) (hts (.instanceMethod yX0_init) (by decide +kernel)) rfl (by decide +kernel) ⟨Nat.le_of_ble_eq_true rfl, Nat.le_of_ble_eq_true rfl⟩) hK hP hD hS hA [10] [0, 1, 2, 3, 4, 5, 6, 7, 8, 9] rfl rfl (by decide) (by decide) (fun k q h => by simp at h) (by simp) rfl hl.1 rfl (Nat.le_of_ble_eq_true rfl) dX2_init_52 ⟨Nat.le_of_ble_eq_true rfl, Nat.le_of_ble_eq_true rfl⟩ (fun u H locs hu hP hD hS => ?_)
  obtain ⟨k52a, k52b, k52c, rfl⟩ := len3 hu
  have hP : va_P D vwCl [(h0, oRn (.ref q5) (.ref q18) (.ref q25) .null 0 0), (q5, oK cTrackF k9a k9b k9c), (k9a, aI cI 12 (fun _ => 0)), (k9b, aI cI 12 (fun _ => 0)), (k9c, aI cI 12 (upd (fun _ => 0) 0 2)), (q18, aQ cT 6 (fun _ => none)), (q25, oT (cStartF (cNewF 0 20 10 2)) k35a k35b k35c), (k35a, aI cI 8 (cStartP (cNewF 0 20 10 2) (fun _ => 0) 2 2)), (k35b, aI cI 3 (cFill (fun _ => 0) (-1) 3)), (k35c, aI cI 3 (cFill (fun _ => 0) 0 3)), (q42, oT (cStartF (cNewF 0 20 10 2)) k52a k52b k52c), (k52a, aI cI 8 (cStartP (cNewF 0 20 10 2) (fun _ => 0) 2 2)), (k52b, aI cI 3 (cFill (fun _ => 0) (-1) 3)), (k52c, aI cI 3 (cFill (fun _ => 0) 0 3))] H := hP
  have hD : va_D A [(h0, oRn (.ref q5) (.ref q18) (.ref q25) .null 0 0), (q5, oK cTrackF k9a k9b k9c), (k9a, aI cI 12 (fun _ => 0)), (k9b, aI cI 12 (fun _ => 0)), (k9c, aI cI 12 (upd (fun _ => 0) 0 2)), (q18, aQ cT 6 (fun _ => none)), (q25, oT (cStartF (cNewF 0 20 10 2)) k35a k35b k35c), (k35a, aI cI 8 (cStartP (cNewF 0 20 10 2) (fun _ => 0) 2 2)), (k35b, aI cI 3 (cFill (fun _ => 0) (-1) 3)), (k35c, aI cI 3 (cFill (fun _ => 0) 0 3)), (q42, oT (cStartF (cNewF 0 20 10 2)) k52a k52b k52c), (k52a, aI cI 8 (cStartP (cNewF 0 20 10 2) (fun _ => 0) 2 2)), (k52b, aI cI 3 (cFill (fun _ => 0) (-1) 3)), (k52c, aI cI 3 (cFill (fun _ => 0) 0 3))] := hD
  refine va_putF (D := D) (ci := 2) (v := .ref q42) (ty := (.object "SledgeRace$Team")) (C := RX2) (T := TX2) (N := 6) hx hb hts hiX2 tyX2 tyX2_ok nmX2 hown hK.1 hP hD hS 0 rfl rfl 3 (by decide) (hts (.fieldLink RX2 29 "SledgeRace" "rival" "LSledgeRace$Team;") (by decide +kernel)) (fun _ h9 => h9) rfl hin rfl (by decide +kernel) rfl rfl (Nat.le_of_ble_eq_true rfl) dX2_init_55 (fun H locs hP hD hS => ?_)
  have hP : va_P D vwCl [(h0, oR q5 q18 q25 q42 0 0), (q5, oK cTrackF k9a k9b k9c), (k9a, aI cI 12 (fun _ => 0)), (k9b, aI cI 12 (fun _ => 0)), (k9c, aI cI 12 (upd (fun _ => 0) 0 2)), (q18, aQ cT 6 (fun _ => none)), (q25, oT (cStartF (cNewF 0 20 10 2)) k35a k35b k35c), (k35a, aI cI 8 (cStartP (cNewF 0 20 10 2) (fun _ => 0) 2 2)), (k35b, aI cI 3 (cFill (fun _ => 0) (-1) 3)), (k35c, aI cI 3 (cFill (fun _ => 0) 0 3)), (q42, oT (cStartF (cNewF 0 20 10 2)) k52a k52b k52c), (k52a, aI cI 8 (cStartP (cNewF 0 20 10 2) (fun _ => 0) 2 2)), (k52b, aI cI 3 (cFill (fun _ => 0) (-1) 3)), (k52c, aI cI 3 (cFill (fun _ => 0) 0 3))] H := hP
  have hD : va_D A [(h0, oR q5 q18 q25 q42 0 0), (q5, oK cTrackF k9a k9b k9c), (k9a, aI cI 12 (fun _ => 0)), (k9b, aI cI 12 (fun _ => 0)), (k9c, aI cI 12 (upd (fun _ => 0) 0 2)), (q18, aQ cT 6 (fun _ => none)), (q25, oT (cStartF (cNewF 0 20 10 2)) k35a k35b k35c), (k35a, aI cI 8 (cStartP (cNewF 0 20 10 2) (fun _ => 0) 2 2)), (k35b, aI cI 3 (cFill (fun _ => 0) (-1) 3)), (k35c, aI cI 3 (cFill (fun _ => 0) 0 3)), (q42, oT (cStartF (cNewF 0 20 10 2)) k52a k52b k52c), (k52a, aI cI 8 (cStartP (cNewF 0 20 10 2) (fun _ => 0) 2 2)), (k52b, aI cI 3 (cFill (fun _ => 0) (-1) 3)), (k52c, aI cI 3 (cFill (fun _ => 0) 0 3))] := hD
  refine lv_aload_n hx hb dX2_init_58 rfl (lv_at hl 0 rfl) ?_
  refine lv_iconst (v := 0) hx hb dX2_init_59 (by decide) ?_
  refine va_put (D := D) (ci := 2) (v := .int 0) (ty := .int) (C := RX2) (T := TX2) (N := 6) hx hb hts hiX2 tyX2 tyX2_ok nmX2 hown hK.1 hP hD hS 0 rfl rfl 4 (by decide) (hts (.fieldLink RX2 32 "SledgeRace" "teamCount" "I") (by decide +kernel)) (fun _ h9 => h9) rfl (by decide +kernel) rfl rfl (Nat.le_of_ble_eq_true rfl) dX2_init_60 (fun H locs hP hD hS => ?_)
  have hP : va_P D vwCl [(h0, oR q5 q18 q25 q42 0 0), (q5, oK cTrackF k9a k9b k9c), (k9a, aI cI 12 (fun _ => 0)), (k9b, aI cI 12 (fun _ => 0)), (k9c, aI cI 12 (upd (fun _ => 0) 0 2)), (q18, aQ cT 6 (fun _ => none)), (q25, oT (cStartF (cNewF 0 20 10 2)) k35a k35b k35c), (k35a, aI cI 8 (cStartP (cNewF 0 20 10 2) (fun _ => 0) 2 2)), (k35b, aI cI 3 (cFill (fun _ => 0) (-1) 3)), (k35c, aI cI 3 (cFill (fun _ => 0) 0 3)), (q42, oT (cStartF (cNewF 0 20 10 2)) k52a k52b k52c), (k52a, aI cI 8 (cStartP (cNewF 0 20 10 2) (fun _ => 0) 2 2)), (k52b, aI cI 3 (cFill (fun _ => 0) (-1) 3)), (k52c, aI cI 3 (cFill (fun _ => 0) 0 3))] H := hP
  have hD : va_D A [(h0, oR q5 q18 q25 q42 0 0), (q5, oK cTrackF k9a k9b k9c), (k9a, aI cI 12 (fun _ => 0)), (k9b, aI cI 12 (fun _ => 0)), (k9c, aI cI 12 (upd (fun _ => 0) 0 2)), (q18, aQ cT 6 (fun _ => none)), (q25, oT (cStartF (cNewF 0 20 10 2)) k35a k35b k35c), (k35a, aI cI 8 (cStartP (cNewF 0 20 10 2) (fun _ => 0) 2 2)), (k35b, aI cI 3 (cFill (fun _ => 0) (-1) 3)), (k35c, aI cI 3 (cFill (fun _ => 0) 0 3)), (q42, oT (cStartF (cNewF 0 20 10 2)) k52a k52b k52c), (k52a, aI cI 8 (cStartP (cNewF 0 20 10 2) (fun _ => 0) 2 2)), (k52b, aI cI 3 (cFill (fun _ => 0) (-1) 3)), (k52c, aI cI 3 (cFill (fun _ => 0) 0 3))] := hD
  refine lv_aload_n hx hb dX2_init_63 rfl (lv_at hl 0 rfl) ?_
  refine lv_iconst (v := 0) hx hb dX2_init_64 (by decide) ?_
  refine va_put (D := D) (ci := 2) (v := .int 0) (ty := .int) (C := RX2) (T := TX2) (N := 6) hx hb hts hiX2 tyX2 tyX2_ok nmX2 hown hK.1 hP hD hS 0 rfl rfl 5 (by decide) (hts (.fieldLink RX2 36 "SledgeRace" "tick" "I") (by decide +kernel)) (fun _ h9 => h9) rfl (by decide +kernel) rfl rfl (Nat.le_of_ble_eq_true rfl) dX2_init_65 (fun H locs hP hD hS => ?_)
  have hP : va_P D vwCl [(h0, oR q5 q18 q25 q42 0 0), (q5, oK cTrackF k9a k9b k9c), (k9a, aI cI 12 (fun _ => 0)), (k9b, aI cI 12 (fun _ => 0)), (k9c, aI cI 12 (upd (fun _ => 0) 0 2)), (q18, aQ cT 6 (fun _ => none)), (q25, oT (cStartF (cNewF 0 20 10 2)) k35a k35b k35c), (k35a, aI cI 8 (cStartP (cNewF 0 20 10 2) (fun _ => 0) 2 2)), (k35b, aI cI 3 (cFill (fun _ => 0) (-1) 3)), (k35c, aI cI 3 (cFill (fun _ => 0) 0 3)), (q42, oT (cStartF (cNewF 0 20 10 2)) k52a k52b k52c), (k52a, aI cI 8 (cStartP (cNewF 0 20 10 2) (fun _ => 0) 2 2)), (k52b, aI cI 3 (cFill (fun _ => 0) (-1) 3)), (k52c, aI cI 3 (cFill (fun _ => 0) 0 3))] H := hP
  have hD : va_D A [(h0, oR q5 q18 q25 q42 0 0), (q5, oK cTrackF k9a k9b k9c), (k9a, aI cI 12 (fun _ => 0)), (k9b, aI cI 12 (fun _ => 0)), (k9c, aI cI 12 (upd (fun _ => 0) 0 2)), (q18, aQ cT 6 (fun _ => none)), (q25, oT (cStartF (cNewF 0 20 10 2)) k35a k35b k35c), (k35a, aI cI 8 (cStartP (cNewF 0 20 10 2) (fun _ => 0) 2 2)), (k35b, aI cI 3 (cFill (fun _ => 0) (-1) 3)), (k35c, aI cI 3 (cFill (fun _ => 0) 0 3)), (q42, oT (cStartF (cNewF 0 20 10 2)) k52a k52b k52c), (k52a, aI cI 8 (cStartP (cNewF 0 20 10 2) (fun _ => 0) 2 2)), (k52b, aI cI 3 (cFill (fun _ => 0) (-1) 3)), (k52c, aI cI 3 (cFill (fun _ => 0) 0 3))] := hD
  subst hQ
  have hP9 : va_P D vwCl ((fun u => [(h0, oR (u.getD 0 0) (u.getD 4 0) (u.getD 5 0) (u.getD 9 0) 0 0), ((u.getD 0 0), oK cTrackF (u.getD 1 0) (u.getD 2 0) (u.getD 3 0)), ((u.getD 1 0), aI cI 12 (fun _ => 0)), ((u.getD 2 0), aI cI 12 (fun _ => 0)), ((u.getD 3 0), aI cI 12 (upd (fun _ => 0) 0 2)), ((u.getD 4 0), aQ cT 6 (fun _ => none)), ((u.getD 5 0), oT (cStartF (cNewF 0 20 10 2)) (u.getD 6 0) (u.getD 7 0) (u.getD 8 0)), ((u.getD 6 0), aI cI 8 (cStartP (cNewF 0 20 10 2) (fun _ => 0) 2 2)), ((u.getD 7 0), aI cI 3 (cFill (fun _ => 0) (-1) 3)), ((u.getD 8 0), aI cI 3 (cFill (fun _ => 0) 0 3)), ((u.getD 9 0), oT (cStartF (cNewF 0 20 10 2)) (u.getD 10 0) (u.getD 11 0) (u.getD 12 0)), ((u.getD 10 0), aI cI 8 (cStartP (cNewF 0 20 10 2) (fun _ => 0) 2 2)), ((u.getD 11 0), aI cI 3 (cFill (fun _ => 0) (-1) 3)), ((u.getD 12 0), aI cI 3 (cFill (fun _ => 0) 0 3))]) [q5, k9a, k9b, k9c, q18, q25, k35a, k35b, k35c, q42, k52a, k52b, k52c]) H := hP
  subst hAe
  exact W.vret hx hb hr (fun t ht hW => ⟨⟨[q5, k9a, k9b, k9c, q18, q25, k35a, k35b, k35c, q42, k52a, k52b, k52c], rfl, rfl, by show va_P D vwCl _ t.heap; rw [ht]; exact hP9, hD⟩, hS.F ht⟩) hS.2.2 dX2_init_68
