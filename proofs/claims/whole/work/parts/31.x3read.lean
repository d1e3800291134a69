abbrev rmX3_get : Room := { frames := 0, cells := 0, slots := 0, locals := 0 }
set_option maxHeartbeats 4000000 in
set_option maxRecDepth 100000 in
/-- a cell of the table -/
theorem mX3_get (l : Launch) (D : va_G) (cI cT : ClassId) (mo g0 t0 z0 : Nat) (MF : Nat → Int32) (tv : Nat → TV) (i j : Nat) (v : Int32) (hi6 : i < 6) (hj : j < 29) (hv : row (tv i) j = v) : MetR l D cI cT yX3_get wsX3_get rmX3_get [.ref mo, .int (nI i), .int (nI j)] [(mo, oM MF g0 t0 z0), (t0, aI cI 174 (tab tv))] (v) := by
  refine Met.ofW (cc := cX3_get) (maxL := 3) (ret := (some .int)) (by decide) rfl ?_
  intro p e s m args below meth c s₁ B hml hv
  obtain ⟨hargs, hP, hK⟩ := hv
  have hx := B.exec
  have hb := B.bytes
  have hr := B.returns
  have hts := atoms_spec (ws := wsX3_get) B.pre
  have hown : s.vm.findClass RX3 = some m.cls := findClass_of_methodNamed B.named
  have hlocks := B.notSynchronized
  have hiX3 : ∀ w ∈ u_ws RX3 TX3 9, w ∈ wsX3_get := by decide +kernel
  have he : entryFrame m args 3 = F0 m 0 ((lg_sl [.ref mo, .int (nI i), .int (nI j)] ++ List.replicate (3 - (lg_sl [.ref mo, .int (nI i), .int (nI j)]).length) Slot.unset).toArray) [] := by rw [hargs]; exact lg_entry_eq m _ _
  rw [he]
  change W p l e rmX3_get s m args below meth c s.heap [] 0 0 (MQ below (QcRead (v)) args s 0 0 (fun _ => False)) _
  obtain ⟨Q, hQ⟩ : ∃ Q, Q = MQ below (QcRead (v)) args s 0 0 (fun _ => False) := ⟨_, rfl⟩
  rw [← hQ]
  have hl := lv_entry [.ref mo, .int (nI i), .int (nI j)] (n := 3) (Nat.le_of_ble_eq_true rfl)
  generalize (lg_sl [.ref mo, .int (nI i), .int (nI j)] ++ List.replicate (3 - (lg_sl [.ref mo, .int (nI i), .int (nI j)]).length) Slot.unset).toArray = ls at hl ⊢
  have hl : lv_has ls 3 [(0, .ref mo), (1, .int (nI i)), (2, .int (nI j))] := hl
  refine lv_aload_n hx hb dX3_get_0 rfl (lv_at hl 0 rfl) ?_
  refine va_get (D := D) (ci := 3) (v := .ref t0) (C := RX3) (T := TX3) (N := 9) hx hb hts hiX3 hown hK.1 hP 0 rfl rfl 7 (by decide) (hts (.fieldLink RX3 20 "SledgeRaceModel" "table" "[I") (by decide +kernel)) (fun _ h9 => h9) rfl dX3_get_1 ?_
  refine lv_bipush (v := nI 29) hx hb dX3_get_4 (by decide) ?_
  refine lv_iload_n hx hb dX3_get_6 rfl (lv_at hl 1 rfl) ?_
  refine lv_imul hx hb dX3_get_7 ?_
  refine sp_top (pk_mul 29 i : (nI 29) * (nI i) = nI (29 * i)) ?_
  refine lv_iload_n hx hb dX3_get_8 rfl (lv_at hl 2 rfl) ?_
  refine lv_iadd hx hb dX3_get_9 ?_
  refine sp_top (nI_add (29 * i) j : (nI (29 * i)) + (nI j) = nI (29 * i + j)) ?_
  refine sp_iald hx hb hK.1 hP 1 0 rfl rfl (by omega) (by omega) dX3_get_10 ?_
  refine sp_top ((tab_at tv i hj).trans hv) ?_
  subst hQ
  exact W.iret hx hb hr (fun t ht _ => ⟨rfl, ht⟩) (fun _ h => nomatch h) dX3_get_11

abbrev rmX3_set : Room := { frames := 0, cells := 0, slots := 0, locals := 0 }
set_option maxHeartbeats 4000000 in
set_option maxRecDepth 100000 in
/-- a cell of the table is written -/
theorem mX3_set (l : Launch) (D : va_G) (cI cT : ClassId) (mo g0 t0 z0 : Nat) (MF : Nat → Int32) (tv : Nat → TV) (i j : Nat) (x : Int32) (T : TV) (hi6 : i < 6) (hj : j < 29) (hrw : ∀ b, b < 29 → row T b = if b = j then x else row (tv i) b) : MetV l D cI cT yX3_set wsX3_set rmX3_set [.ref mo, .int (nI i), .int (nI j), .int x] [(mo, oM MF g0 t0 z0), (t0, aI cI 174 (tab tv))] [] [(mo, oM MF g0 t0 z0), (t0, aI cI 174 (tab (setT tv i T)))] := by
  refine Met.ofW (cc := cX3_set) (maxL := 4) (ret := none) (by decide) rfl ?_
  intro p e s m args below meth c s₁ B hml hv
  obtain ⟨hargs, hP, hR0, hK, hN⟩ := hv
  have hx := B.exec
  have hb := B.bytes
  have hr := B.returns
  have hts := atoms_spec (ws := wsX3_set) B.pre
  have hown : s.vm.findClass RX3 = some m.cls := findClass_of_methodNamed B.named
  have hlocks := B.notSynchronized
  have hiX3 : ∀ w ∈ u_ws RX3 TX3 9, w ∈ wsX3_set := by decide +kernel
  have he : entryFrame m args 4 = F0 m 0 ((lg_sl [.ref mo, .int (nI i), .int (nI j), .int x] ++ List.replicate (4 - (lg_sl [.ref mo, .int (nI i), .int (nI j), .int x]).length) Slot.unset).toArray) [] := by rw [hargs]; exact lg_entry_eq m _ _
  rw [he]
  change W p l e rmX3_set s m args below meth c s.heap [] 0 0 (MQ below (va_Qv (S := Unit) (fun _ => True) (fun _ t => va_P D vwCl [(mo, oM MF g0 t0 z0), (t0, aI cI 174 (tab (setT tv i T)))] t.heap) (fr (List.map Prod.fst [(mo, oM MF g0 t0 z0), (t0, aI cI 174 (tab tv))]))) args s 0 0 (fr (List.map Prod.fst [(mo, oM MF g0 t0 z0), (t0, aI cI 174 (tab tv))]))) _
  obtain ⟨Q, hQ⟩ : ∃ Q, Q = MQ below (va_Qv (S := Unit) (fun _ => True) (fun _ t => va_P D vwCl [(mo, oM MF g0 t0 z0), (t0, aI cI 174 (tab (setT tv i T)))] t.heap) (fr (List.map Prod.fst [(mo, oM MF g0 t0 z0), (t0, aI cI 174 (tab tv))]))) args s 0 0 (fr (List.map Prod.fst [(mo, oM MF g0 t0 z0), (t0, aI cI 174 (tab tv))])) := ⟨_, rfl⟩
  rw [← hQ]
  have hl := lv_entry [.ref mo, .int (nI i), .int (nI j), .int x] (n := 4) (Nat.le_of_ble_eq_true rfl)
  generalize (lg_sl [.ref mo, .int (nI i), .int (nI j), .int x] ++ List.replicate (4 - (lg_sl [.ref mo, .int (nI i), .int (nI j), .int x]).length) Slot.unset).toArray = ls at hl ⊢
  have hl : lv_has ls 4 [(0, .ref mo), (1, .int (nI i)), (2, .int (nI j)), (3, .int x)] := hl
  obtain ⟨A, hAe⟩ : ∃ A, A = (fr (List.map Prod.fst [(mo, oM MF g0 t0 z0), (t0, aI cI 174 (tab tv))])) := ⟨_, rfl⟩
  have hA0 : ∀ q ∈ List.map Prod.fst [(mo, oM MF g0 t0 z0), (t0, aI cI 174 (tab tv))], A q := by rw [hAe]; exact fun q h => h
  have hD : va_D A [(mo, oM MF g0 t0 z0), (t0, aI cI 174 (tab tv))] := sp_D (List.nodup_append.mp (show (([(mo, oM MF g0 t0 z0), (t0, aI cI 174 (tab tv))] : va_W).map Prod.fst ++ ([] : va_W).map Prod.fst).Nodup by rw [← List.map_append]; exact hN)).1 hA0
  have hN : (List.map Prod.fst ([(mo, oM MF g0 t0 z0), (t0, aI cI 174 (tab tv))] ++ []) : List Nat).Nodup := hN
  have hS : va_S A s.heap s.heap [] := va_S.rf
  obtain ⟨H, hH0⟩ : ∃ H, H = s.heap := ⟨_, rfl⟩
  obtain ⟨locs, hlo⟩ : ∃ L : List Loc, L = [] := ⟨_, rfl⟩
  have hP : va_P D vwCl [(mo, oM MF g0 t0 z0), (t0, aI cI 174 (tab tv))] H := by rw [hH0]; exact hP
  have hS : va_S A s.heap H locs := by rw [hH0, hlo]; exact hS
  rw [show W p l e rmX3_set s m args below meth c s.heap [] 0 0 Q (F0 m 0 ls []) = W p l e rmX3_set s m args below meth c H locs 0 0 Q (F0 m 0 ls []) by rw [hH0, hlo]]
  clear hH0 hlo
  refine lv_aload_n hx hb dX3_set_0 rfl (lv_at hl 0 rfl) ?_
  refine va_get (D := D) (ci := 3) (v := .ref t0) (C := RX3) (T := TX3) (N := 9) hx hb hts hiX3 hown hK.1 hP 0 rfl rfl 7 (by decide) (hts (.fieldLink RX3 20 "SledgeRaceModel" "table" "[I") (by decide +kernel)) (fun _ h9 => h9) rfl dX3_set_1 ?_
  refine lv_bipush (v := nI 29) hx hb dX3_set_4 (by decide) ?_
  refine lv_iload_n hx hb dX3_set_6 rfl (lv_at hl 1 rfl) ?_
  refine lv_imul hx hb dX3_set_7 ?_
  refine sp_top (pk_mul 29 i : (nI 29) * (nI i) = nI (29 * i)) ?_
  refine lv_iload_n hx hb dX3_set_8 rfl (lv_at hl 2 rfl) ?_
  refine lv_iadd hx hb dX3_set_9 ?_
  refine sp_top (nI_add (29 * i) j : (nI (29 * i)) + (nI j) = nI (29 * i + j)) ?_
  refine lv_iload_n hx hb dX3_set_10 rfl (lv_at hl 3 rfl) ?_
  refine sp_iast hx hb hK.1 hP hD hS 1 0 rfl rfl (by omega) (by omega) dX3_set_11 (fun H locs hP hD hS => ?_)
  have hP : va_P D vwCl [(mo, oM MF g0 t0 z0), (t0, aI cI 174 (upd (tab tv) (29 * i + j) x))] H := hP
  have hD : va_D A [(mo, oM MF g0 t0 z0), (t0, aI cI 174 (upd (tab tv) (29 * i + j) x))] := hD
  rw [tab_set hj hrw] at hP hD
  subst hQ
  have hP9 : va_P D vwCl [(mo, oM MF g0 t0 z0), (t0, aI cI 174 (tab (setT tv i T)))] H := hP
  subst hAe
  exact W.vret hx hb hr (fun t ht hW => ⟨⟨(), rfl, trivial, by show va_P D vwCl _ t.heap; rw [ht]; exact hP9⟩, hS.F ht⟩) hS.2.2 dX3_set_12

abbrev rmX3_isCarried : Room := { frames := 1, cells := 0, slots := 0, locals := 22 }
set_option maxHeartbeats 4000000 in
set_option maxRecDepth 100000 in
/-- is a roller carried -/
theorem mX3_isCarried (l : Launch) (D : va_G) (cI cT : ClassId) (mo g0 t0 z0 : Nat) (MF : Nat → Int32) (tv : Nat → TV) (i : Nat) (hi6 : i < 6) (F P L G : Nat → Int32) (hT : tv i = (F, P, L, G)) (x : Int32) : MetR l D cI cT yX3_isCarried wsX3_isCarried rmX3_isCarried [.ref mo, .int (nI i), .int x] [(mo, oM MF g0 t0 z0), (t0, aI cI 174 (tab tv))] (bI (mCar L x)) := by
  refine Met.ofW (cc := cX3_isCarried) (maxL := 4) (ret := (some .boolean)) (by decide) rfl ?_
  intro p e s m args below meth c s₁ B hml hv
  obtain ⟨hargs, hP, hK⟩ := hv
  have hx := B.exec
  have hb := B.bytes
  have hr := B.returns
  have hts := atoms_spec (ws := wsX3_isCarried) B.pre
  have hown : s.vm.findClass RX3 = some m.cls := findClass_of_methodNamed B.named
  have hlocks := B.notSynchronized
  have hiX3 : ∀ w ∈ u_ws RX3 TX3 9, w ∈ wsX3_isCarried := by decide +kernel
  have he : entryFrame m args 4 = F0 m 0 ((lg_sl [.ref mo, .int (nI i), .int x] ++ List.replicate (4 - (lg_sl [.ref mo, .int (nI i), .int x]).length) Slot.unset).toArray) [] := by rw [hargs]; exact lg_entry_eq m _ _
  rw [he]
  change W p l e rmX3_isCarried s m args below meth c s.heap [] 0 0 (MQ below (QcRead (bI (mCar L x))) args s 0 0 (fun _ => False)) _
  obtain ⟨Q, hQ⟩ : ∃ Q, Q = MQ below (QcRead (bI (mCar L x))) args s 0 0 (fun _ => False) := ⟨_, rfl⟩
  rw [← hQ]
  have hl := lv_entry [.ref mo, .int (nI i), .int x] (n := 4) (Nat.le_of_ble_eq_true rfl)
  generalize (lg_sl [.ref mo, .int (nI i), .int x] ++ List.replicate (4 - (lg_sl [.ref mo, .int (nI i), .int x]).length) Slot.unset).toArray = ls at hl ⊢
  have hl : lv_has ls 4 [(0, .ref mo), (1, .int (nI i)), (2, .int x)] := hl
  refine lv_iconst (v := nI 0) hx hb dX3_isCarried_0 (by decide) ?_
  refine lv_istore_n (lv' := [(3, .int (nI 0)), (0, .ref mo), (1, .int (nI i)), (2, .int x)]) hx hb dX3_isCarried_1 rfl hl (by decide) rfl (fun ls hl => ?_)
  have loop2 : ∀ (fu : Nat) (r : Nat), (3 - r) < fu → (r ≤ 3) → (∀ q, q < r → ¬ L q = x) → ∀ (ls : Array Slot), lv_has ls 4 [(3, .int (nI r)), (0, .ref mo), (1, .int (nI i)), (2, .int x)] → W p l e rmX3_isCarried s m args below meth c s.heap [] 0 0 Q (F0 m 2 ls []) := by
    intro fu
    induction fu with
    | zero => intro r hfu; exact absurd hfu (Nat.not_lt_zero _)
    | succ fu ih2 =>
      intro r hfu2 hr9 hno
      intro ls hl
      refine lv_iload_n hx hb dX3_isCarried_2 rfl (lv_at hl 0 rfl) ?_
      refine lv_iconst (v := nI 3) hx hb dX3_isCarried_3 (by decide) ?_
      refine sp_ge (by omega) (by omega) (tgt := 28) hx hb dX3_isCarried_4 (by decide) (fun c4 => ?_) (fun c4 => ?_)
      · skip
        refine lv_iconst (v := 0) hx hb dX3_isCarried_28 (by decide) ?_
        refine sp_top (show 0 = bI (mCar L x) from by rw [mCar_no (fun q hq => hno q (by omega))]; rfl) ?_
        subst hQ
        exact W.zret hx hb hr (bI_nar _) (fun t ht _ => ⟨rfl, ht⟩) (fun _ h => nomatch h) dX3_isCarried_29
      · skip
        refine lv_aload_n hx hb dX3_isCarried_7 rfl (lv_at hl 1 rfl) ?_
        refine lv_iload_n hx hb dX3_isCarried_8 rfl (lv_at hl 2 rfl) ?_
        refine lv_bipush (v := nI 23) hx hb dX3_isCarried_9 (by decide) ?_
        refine lv_iload_n hx hb dX3_isCarried_11 rfl (lv_at hl 0 rfl) ?_
        refine lv_iadd hx hb dX3_isCarried_12 ?_
        refine sp_top (nI_add 23 r : (nI 23) + (nI r) = nI (23 + r)) ?_
        refine sp_rV (rest := []) (As := [.int (nI i), .int (nI (23 + r))]) ⟨hx, hb, hml, hown, hts⟩ (mX3_get l D cI cT mo g0 t0 z0 MF tv i (23 + r) (L r) (by omega) (by omega) (by rw [hT, row_L _ (by omega)])) (cwV 2 hts gX3_isCarried_X3_get rfl rfl rfl (by decide +kernel) ⟨Nat.le_of_ble_eq_true rfl, Nat.le_of_ble_eq_true rfl⟩) hK (sp_pick hP [0, 1] rfl) (ci := 3) rfl rfl rfl rfl hl.1 rfl (Nat.le_of_ble_eq_true rfl) dX3_isCarried_13 ⟨Nat.le_of_ble_eq_true rfl, Nat.le_of_ble_eq_true rfl⟩ ?_
        refine lv_iload_n hx hb dX3_isCarried_16 rfl (lv_at hl 3 rfl) ?_
        refine lv_icmp_ne (tgt := 22) hx hb dX3_isCarried_17 (by decide) (fun c17 => ?_) (fun c17 => ?_)
        · skip
          refine lv_iinc (v := nI (r + 1)) (lv' := [(3, .int (nI (r + 1))), (0, .ref mo), (1, .int (nI i)), (2, .int x)]) hx hb dX3_isCarried_22 hl (k := 0) rfl ((nI_1 r)) (by decide) rfl (fun ls hl => ?_)
          refine lv_goto (tgt := 2) hx hb dX3_isCarried_25 (by decide) ?_
          exact ih2 (r + 1) (by omega) (by omega) (lt_s hno c17) ls (lv_sub hl [0, 1, 2, 3] rfl)
        · skip
          refine lv_iconst (v := 1) hx hb dX3_isCarried_20 (by decide) ?_
          refine sp_top (show 1 = bI (mCar L x) from by rw [mCar_yes (by omega) c17]; rfl) ?_
          subst hQ
          exact W.zret hx hb hr (bI_nar _) (fun t ht _ => ⟨rfl, ht⟩) (fun _ h => nomatch h) dX3_isCarried_21
  exact loop2 _ 0 (Nat.lt_succ_self _) (Nat.zero_le _) (fun q hq => absurd hq (Nat.not_lt_zero q)) ls (lv_sub hl [0, 1, 2, 3] rfl)

abbrev rmX3_where : Room := { frames := 2, cells := 0, slots := 0, locals := 45 }
set_option maxHeartbeats 4000000 in
set_option maxRecDepth 100000 in
/-- where a roller lies -/
theorem mX3_where (l : Launch) (D : va_G) (cI cT : ClassId) (mo g0 t0 z0 : Nat) (MF : Nat → Int32) (tv : Nat → TV) (i : Nat) (hi6 : i < 6) (F P L G : Nat → Int32) (hT : tv i = (F, P, L, G)) (k : Nat) (hk8 : k < 8) : MetR l D cI cT yX3_where wsX3_where rmX3_where [.ref mo, .int (nI i), .int (nI k)] [(mo, oM MF g0 t0 z0), (t0, aI cI 174 (tab tv))] (mSide F P L k) := by
  refine Met.ofW (cc := cX3_where) (maxL := 4) (ret := (some .int)) (by decide) rfl ?_
  intro p e s m args below meth c s₁ B hml hv
  obtain ⟨hargs, hP, hK⟩ := hv
  have hx := B.exec
  have hb := B.bytes
  have hr := B.returns
  have hts := atoms_spec (ws := wsX3_where) B.pre
  have hown : s.vm.findClass RX3 = some m.cls := findClass_of_methodNamed B.named
  have hlocks := B.notSynchronized
  have hiX3 : ∀ w ∈ u_ws RX3 TX3 9, w ∈ wsX3_where := by decide +kernel
  have he : entryFrame m args 4 = F0 m 0 ((lg_sl [.ref mo, .int (nI i), .int (nI k)] ++ List.replicate (4 - (lg_sl [.ref mo, .int (nI i), .int (nI k)]).length) Slot.unset).toArray) [] := by rw [hargs]; exact lg_entry_eq m _ _
  rw [he]
  change W p l e rmX3_where s m args below meth c s.heap [] 0 0 (MQ below (QcRead (mSide F P L k)) args s 0 0 (fun _ => False)) _
  obtain ⟨Q, hQ⟩ : ∃ Q, Q = MQ below (QcRead (mSide F P L k)) args s 0 0 (fun _ => False) := ⟨_, rfl⟩
  rw [← hQ]
  have hl := lv_entry [.ref mo, .int (nI i), .int (nI k)] (n := 4) (Nat.le_of_ble_eq_true rfl)
  generalize (lg_sl [.ref mo, .int (nI i), .int (nI k)] ++ List.replicate (4 - (lg_sl [.ref mo, .int (nI i), .int (nI k)]).length) Slot.unset).toArray = ls at hl ⊢
  have hl : lv_has ls 4 [(0, .ref mo), (1, .int (nI i)), (2, .int (nI k))] := hl
  refine lv_aload_n hx hb dX3_where_0 rfl (lv_at hl 0 rfl) ?_
  refine lv_iload_n hx hb dX3_where_1 rfl (lv_at hl 1 rfl) ?_
  refine lv_bipush (v := nI 15) hx hb dX3_where_2 (by decide) ?_
  refine lv_iload_n hx hb dX3_where_4 rfl (lv_at hl 2 rfl) ?_
  refine lv_iadd hx hb dX3_where_5 ?_
  refine sp_top (nI_add 15 k : (nI 15) + (nI k) = nI (15 + k)) ?_
  refine sp_rV (rest := []) (As := [.int (nI i), .int (nI (15 + k))]) ⟨hx, hb, hml, hown, hts⟩ (mX3_get l D cI cT mo g0 t0 z0 MF tv i (15 + k) (P k) (by omega) (by omega) (by rw [hT, row_P _ (by omega)])) (cwV 2 hts gX3_where_X3_get rfl rfl rfl (by decide +kernel) ⟨Nat.le_of_ble_eq_true rfl, Nat.le_of_ble_eq_true rfl⟩) hK (sp_pick hP [0, 1] rfl) (ci := 3) rfl rfl rfl rfl hl.1 rfl (Nat.le_of_ble_eq_true rfl) dX3_where_6 ⟨Nat.le_of_ble_eq_true rfl, Nat.le_of_ble_eq_true rfl⟩ ?_
  refine lv_istore_n (lv' := [(3, .int (P k)), (0, .ref mo), (1, .int (nI i)), (2, .int (nI k))]) hx hb dX3_where_9 rfl hl (by decide) rfl (fun ls hl => ?_)
  refine lv_aload_n hx hb dX3_where_10 rfl (lv_at hl 1 rfl) ?_
  refine lv_iload_n hx hb dX3_where_11 rfl (lv_at hl 2 rfl) ?_
  refine lv_iload_n hx hb dX3_where_12 rfl (lv_at hl 3 rfl) ?_
  refine sp_rV (rest := []) (As := [.int (nI i), .int (nI k)]) ⟨hx, hb, hml, hown, hts⟩ (mX3_isCarried l D cI cT mo g0 t0 z0 MF tv i (by omega) F P L G (hT) (nI k)) (cwV 2 hts gX3_where_X3_isCarried rfl rfl rfl (by decide +kernel) ⟨Nat.le_of_ble_eq_true rfl, Nat.le_of_ble_eq_true rfl⟩) hK (sp_pick hP [0, 1] rfl) (ci := 3) rfl rfl rfl rfl hl.1 rfl (Nat.le_of_ble_eq_true rfl) dX3_where_13 ⟨Nat.le_of_ble_eq_true rfl, Nat.le_of_ble_eq_true rfl⟩ ?_
  refine sp_if_eq (tgt := 23) hx hb dX3_where_16 (by decide) (fun c16 => ?_) (fun c16 => ?_)
  · skip
    refine lv_iload_n hx hb dX3_where_23 rfl (lv_at hl 0 rfl) ?_
    refine lv_aload_n hx hb dX3_where_24 rfl (lv_at hl 1 rfl) ?_
    refine lv_iload_n hx hb dX3_where_25 rfl (lv_at hl 2 rfl) ?_
    refine lv_bipush (v := 9) hx hb dX3_where_26 (by decide) ?_
    refine sp_rV (rest := [.int (P k)]) (As := [.int (nI i), .int (nI 9)]) ⟨hx, hb, hml, hown, hts⟩ (mX3_get l D cI cT mo g0 t0 z0 MF tv i 9 (F 9) (by omega) (by omega) (by rw [hT]; rfl)) (cwV 2 hts gX3_where_X3_get rfl rfl rfl (by decide +kernel) ⟨Nat.le_of_ble_eq_true rfl, Nat.le_of_ble_eq_true rfl⟩) hK (sp_pick hP [0, 1] rfl) (ci := 3) rfl rfl rfl rfl hl.1 rfl (Nat.le_of_ble_eq_true rfl) dX3_where_28 ⟨Nat.le_of_ble_eq_true rfl, Nat.le_of_ble_eq_true rfl⟩ ?_
    refine lx_icmp_le (tgt := 38) hx hb dX3_where_31 (by decide) (fun c31 => ?_) (fun c31 => ?_)
    · skip
      refine lv_iload_n hx hb dX3_where_38 rfl (lv_at hl 0 rfl) ?_
      refine lv_aload_n hx hb dX3_where_39 rfl (lv_at hl 1 rfl) ?_
      refine lv_iload_n hx hb dX3_where_40 rfl (lv_at hl 2 rfl) ?_
      refine lv_bipush (v := 9) hx hb dX3_where_41 (by decide) ?_
      refine sp_rV (rest := [.int (P k)]) (As := [.int (nI i), .int (nI 9)]) ⟨hx, hb, hml, hown, hts⟩ (mX3_get l D cI cT mo g0 t0 z0 MF tv i 9 (F 9) (by omega) (by omega) (by rw [hT]; rfl)) (cwV 2 hts gX3_where_X3_get rfl rfl rfl (by decide +kernel) ⟨Nat.le_of_ble_eq_true rfl, Nat.le_of_ble_eq_true rfl⟩) hK (sp_pick hP [0, 1] rfl) (ci := 3) rfl rfl rfl rfl hl.1 rfl (Nat.le_of_ble_eq_true rfl) dX3_where_43 ⟨Nat.le_of_ble_eq_true rfl, Nat.le_of_ble_eq_true rfl⟩ ?_
      refine lv_aload_n hx hb dX3_where_46 rfl (lv_at hl 1 rfl) ?_
      refine lv_iload_n hx hb dX3_where_47 rfl (lv_at hl 2 rfl) ?_
      refine lv_iconst (v := 0) hx hb dX3_where_48 (by decide) ?_
      refine sp_rV (rest := [.int (F 9), .int (P k)]) (As := [.int (nI i), .int (nI 0)]) ⟨hx, hb, hml, hown, hts⟩ (mX3_get l D cI cT mo g0 t0 z0 MF tv i 0 (F 0) (by omega) (by omega) (by rw [hT]; rfl)) (cwV 2 hts gX3_where_X3_get rfl rfl rfl (by decide +kernel) ⟨Nat.le_of_ble_eq_true rfl, Nat.le_of_ble_eq_true rfl⟩) hK (sp_pick hP [0, 1] rfl) (ci := 3) rfl rfl rfl rfl hl.1 rfl (Nat.le_of_ble_eq_true rfl) dX3_where_49 ⟨Nat.le_of_ble_eq_true rfl, Nat.le_of_ble_eq_true rfl⟩ ?_
      refine lv_isub hx hb dX3_where_52 ?_
      refine lx_icmp_ge (tgt := 60) hx hb dX3_where_53 (by decide) (fun c53 => ?_) (fun c53 => ?_)
      · skip
        refine lv_iconst (v := 0) hx hb dX3_where_60 (by decide) ?_
        refine sp_top (show 0 = mSide F P L k from by unfold mSide; rw [if_neg (by rw [c16]; decide), if_neg c31, if_neg c53]) ?_
        subst hQ
        exact W.iret hx hb hr (fun t ht _ => ⟨rfl, ht⟩) (fun _ h => nomatch h) dX3_where_61
      · skip
        refine lv_iconst (v := 1) hx hb dX3_where_56 (by decide) ?_
        refine lv_goto (tgt := 61) hx hb dX3_where_57 (by decide) ?_
        refine sp_top (show 1 = mSide F P L k from by unfold mSide; rw [if_neg (by rw [c16]; decide), if_neg c31, if_pos c53]) ?_
        subst hQ
        exact W.iret hx hb hr (fun t ht _ => ⟨rfl, ht⟩) (fun _ h => nomatch h) dX3_where_61
    · skip
      refine lv_iconst (v := 2) hx hb dX3_where_34 (by decide) ?_
      refine lv_goto (tgt := 61) hx hb dX3_where_35 (by decide) ?_
      refine sp_top (show 2 = mSide F P L k from by unfold mSide; rw [if_neg (by rw [c16]; decide), if_pos c31]) ?_
      subst hQ
      exact W.iret hx hb hr (fun t ht _ => ⟨rfl, ht⟩) (fun _ h => nomatch h) dX3_where_61
  · skip
    refine lv_iconst (v := 3) hx hb dX3_where_19 (by decide) ?_
    refine lv_goto (tgt := 61) hx hb dX3_where_20 (by decide) ?_
    refine sp_top (show 3 = mSide F P L k from by unfold mSide; rw [if_pos c16]) ?_
    subst hQ
    exact W.iret hx hb hr (fun t ht _ => ⟨rfl, ht⟩) (fun _ h => nomatch h) dX3_where_61

abbrev rmX3_many : Room := { frames := 3, cells := 0, slots := 0, locals := 68 }
set_option maxHeartbeats 4000000 in
set_option maxRecDepth 100000 in
/-- how many rollers lie there -/
theorem mX3_many (l : Launch) (D : va_G) (cI cT : ClassId) (mo g0 t0 z0 : Nat) (MF : Nat → Int32) (tv : Nat → TV) (i : Nat) (hi6 : i < 6) (F P L G : Nat → Int32) (hT : tv i = (F, P, L, G)) (w : Int32) (n : Nat) (hn : n ≤ 8) (h2 : F 2 = nI n) : MetR l D cI cT yX3_many wsX3_many rmX3_many [.ref mo, .int (nI i), .int w] [(mo, oM MF g0 t0 z0), (t0, aI cI 174 (tab tv))] (nI (mMany F P L n w)) := by
  refine Met.ofW (cc := cX3_many) (maxL := 5) (ret := (some .int)) (by decide) rfl ?_
  intro p e s m args below meth c s₁ B hml hv
  obtain ⟨hargs, hP, hK⟩ := hv
  have hx := B.exec
  have hb := B.bytes
  have hr := B.returns
  have hts := atoms_spec (ws := wsX3_many) B.pre
  have hown : s.vm.findClass RX3 = some m.cls := findClass_of_methodNamed B.named
  have hlocks := B.notSynchronized
  have hiX3 : ∀ w ∈ u_ws RX3 TX3 9, w ∈ wsX3_many := by decide +kernel
  have he : entryFrame m args 5 = F0 m 0 ((lg_sl [.ref mo, .int (nI i), .int w] ++ List.replicate (5 - (lg_sl [.ref mo, .int (nI i), .int w]).length) Slot.unset).toArray) [] := by rw [hargs]; exact lg_entry_eq m _ _
  rw [he]
  change W p l e rmX3_many s m args below meth c s.heap [] 0 0 (MQ below (QcRead (nI (mMany F P L n w))) args s 0 0 (fun _ => False)) _
  obtain ⟨Q, hQ⟩ : ∃ Q, Q = MQ below (QcRead (nI (mMany F P L n w))) args s 0 0 (fun _ => False) := ⟨_, rfl⟩
  rw [← hQ]
  have hl := lv_entry [.ref mo, .int (nI i), .int w] (n := 5) (Nat.le_of_ble_eq_true rfl)
  generalize (lg_sl [.ref mo, .int (nI i), .int w] ++ List.replicate (5 - (lg_sl [.ref mo, .int (nI i), .int w]).length) Slot.unset).toArray = ls at hl ⊢
  have hl : lv_has ls 5 [(0, .ref mo), (1, .int (nI i)), (2, .int w)] := hl
  refine lv_iconst (v := nI 0) hx hb dX3_many_0 (by decide) ?_
  refine lv_istore_n (lv' := [(3, .int (nI 0)), (0, .ref mo), (1, .int (nI i)), (2, .int w)]) hx hb dX3_many_1 rfl hl (by decide) rfl (fun ls hl => ?_)
  refine lv_iconst (v := nI 0) hx hb dX3_many_2 (by decide) ?_
  refine lv_istore (lv' := [(4, .int (nI 0)), (3, .int (nI 0)), (0, .ref mo), (1, .int (nI i)), (2, .int w)]) hx hb dX3_many_3 hl (by decide) rfl (fun ls hl => ?_)
  have loop5 : ∀ (fu : Nat) (k : Nat) (r : Nat), (n - k) < fu → (k ≤ n) → (r = cnt (fun k => decide (mSide F P L k = w)) k) → ∀ (ls : Array Slot), lv_has ls 5 [(4, .int (nI k)), (3, .int (nI r)), (0, .ref mo), (1, .int (nI i)), (2, .int w)] → W p l e rmX3_many s m args below meth c s.heap [] 0 0 Q (F0 m 5 ls []) := by
    intro fu
    induction fu with
    | zero => intro k r hfu; exact absurd hfu (Nat.not_lt_zero _)
    | succ fu ih5 =>
      intro k r hfu5 hk er
      intro ls hl
      refine lv_iload hx hb dX3_many_5 (lv_at hl 0 rfl) ?_
      refine lv_aload_n hx hb dX3_many_7 rfl (lv_at hl 2 rfl) ?_
      refine lv_iload_n hx hb dX3_many_8 rfl (lv_at hl 3 rfl) ?_
      refine lv_iconst (v := 2) hx hb dX3_many_9 (by decide) ?_
      refine sp_rV (rest := [.int (nI k)]) (As := [.int (nI i), .int (nI 2)]) ⟨hx, hb, hml, hown, hts⟩ (mX3_get l D cI cT mo g0 t0 z0 MF tv i 2 (nI n) (by omega) (by omega) (by rw [hT]; exact h2)) (cwV 2 hts gX3_many_X3_get rfl rfl rfl (by decide +kernel) ⟨Nat.le_of_ble_eq_true rfl, Nat.le_of_ble_eq_true rfl⟩) hK (sp_pick hP [0, 1] rfl) (ci := 3) rfl rfl rfl rfl hl.1 rfl (Nat.le_of_ble_eq_true rfl) dX3_many_10 ⟨Nat.le_of_ble_eq_true rfl, Nat.le_of_ble_eq_true rfl⟩ ?_
      refine sp_ge (by omega) (by omega) (tgt := 41) hx hb dX3_many_13 (by decide) (fun c13 => ?_) (fun c13 => ?_)
      · skip
        refine lv_iload_n hx hb dX3_many_41 rfl (lv_at hl 1 rfl) ?_
        refine sp_top (show nI r = nI (mMany F P L n w) from by rw [er, show k = n from by omega]; rfl) ?_
        subst hQ
        exact W.iret hx hb hr (fun t ht _ => ⟨rfl, ht⟩) (fun _ h => nomatch h) dX3_many_42
      · skip
        refine lv_iload_n hx hb dX3_many_16 rfl (lv_at hl 1 rfl) ?_
        refine lv_aload_n hx hb dX3_many_17 rfl (lv_at hl 2 rfl) ?_
        refine lv_iload_n hx hb dX3_many_18 rfl (lv_at hl 3 rfl) ?_
        refine lv_iload hx hb dX3_many_19 (lv_at hl 0 rfl) ?_
        refine sp_rV (rest := [.int (nI r)]) (As := [.int (nI i), .int (nI k)]) ⟨hx, hb, hml, hown, hts⟩ (mX3_where l D cI cT mo g0 t0 z0 MF tv i (by omega) F P L G (hT) k (by omega)) (cwV 2 hts gX3_many_X3_where rfl rfl rfl (by decide +kernel) ⟨Nat.le_of_ble_eq_true rfl, Nat.le_of_ble_eq_true rfl⟩) hK (sp_pick hP [0, 1] rfl) (ci := 3) rfl rfl rfl rfl hl.1 rfl (Nat.le_of_ble_eq_true rfl) dX3_many_21 ⟨Nat.le_of_ble_eq_true rfl, Nat.le_of_ble_eq_true rfl⟩ ?_
        refine lv_iload_n hx hb dX3_many_24 rfl (lv_at hl 4 rfl) ?_
        refine lv_icmp_ne (tgt := 32) hx hb dX3_many_25 (by decide) (fun c25 => ?_) (fun c25 => ?_)
        · skip
          refine lv_iconst (v := nI 0) hx hb dX3_many_32 (by decide) ?_
          refine lv_iadd hx hb dX3_many_33 ?_
          refine sp_top (nI_add r 0 : (nI r) + (nI 0) = nI (r + 0)) ?_
          refine lv_istore_n (lv' := [(3, .int (nI (r + 0))), (4, .int (nI k)), (0, .ref mo), (1, .int (nI i)), (2, .int w)]) hx hb dX3_many_34 rfl hl (by decide) rfl (fun ls hl => ?_)
          refine lv_iinc (v := nI (k + 1)) (lv' := [(4, .int (nI (k + 1))), (3, .int (nI (r + 0))), (0, .ref mo), (1, .int (nI i)), (2, .int w)]) hx hb dX3_many_35 hl (k := 1) rfl ((nI_1 k)) (by decide) rfl (fun ls hl => ?_)
          refine lv_goto (tgt := 5) hx hb dX3_many_38 (by decide) ?_
          exact ih5 (k + 1) (r + 0) (by omega) (by omega) (by rw [cnt, ← er]; simp [c25]) ls (lv_sub hl [0, 1, 2, 3, 4] rfl)
        · skip
          refine lv_iconst (v := nI 1) hx hb dX3_many_28 (by decide) ?_
          refine lv_goto (tgt := 33) hx hb dX3_many_29 (by decide) ?_
          refine lv_iadd hx hb dX3_many_33 ?_
          refine sp_top (nI_add r 1 : (nI r) + (nI 1) = nI (r + 1)) ?_
          refine lv_istore_n (lv' := [(3, .int (nI (r + 1))), (4, .int (nI k)), (0, .ref mo), (1, .int (nI i)), (2, .int w)]) hx hb dX3_many_34 rfl hl (by decide) rfl (fun ls hl => ?_)
          refine lv_iinc (v := nI (k + 1)) (lv' := [(4, .int (nI (k + 1))), (3, .int (nI (r + 1))), (0, .ref mo), (1, .int (nI i)), (2, .int w)]) hx hb dX3_many_35 hl (k := 1) rfl ((nI_1 k)) (by decide) rfl (fun ls hl => ?_)
          refine lv_goto (tgt := 5) hx hb dX3_many_38 (by decide) ?_
          exact ih5 (k + 1) (r + 1) (by omega) (by omega) (by rw [cnt, ← er]; simp [c25]) ls (lv_sub hl [0, 1, 2, 3, 4] rfl)
  exact loop5 _ 0 0 (Nat.lt_succ_self _) (Nat.zero_le _) (rfl) ls (lv_sub hl [0, 1, 2, 3, 4] rfl)

abbrev rmX3_pull : Room := { frames := 1, cells := 0, slots := 0, locals := 22 }
set_option maxHeartbeats 4000000 in
set_option maxRecDepth 100000 in
/-- the pull -/
theorem mX3_pull (l : Launch) (D : va_G) (cI cT : ClassId) (mo g0 t0 z0 : Nat) (MF : Nat → Int32) (tv : Nat → TV) (i : Nat) (hi6 : i < 6) (F P L G : Nat → Int32) (hT : tv i = (F, P, L, G)) : MetR l D cI cT yX3_pull wsX3_pull rmX3_pull [.ref mo, .int (nI i)] [(mo, oM MF g0 t0 z0), (t0, aI cI 174 (tab tv))] (mPull F) := by
  refine Met.ofW (cc := cX3_pull) (maxL := 2) (ret := (some .int)) (by decide) rfl ?_
  intro p e s m args below meth c s₁ B hml hv
  obtain ⟨hargs, hP, hK⟩ := hv
  have hx := B.exec
  have hb := B.bytes
  have hr := B.returns
  have hts := atoms_spec (ws := wsX3_pull) B.pre
  have hown : s.vm.findClass RX3 = some m.cls := findClass_of_methodNamed B.named
  have hlocks := B.notSynchronized
  have hiX3 : ∀ w ∈ u_ws RX3 TX3 9, w ∈ wsX3_pull := by decide +kernel
  have he : entryFrame m args 2 = F0 m 0 ((lg_sl [.ref mo, .int (nI i)] ++ List.replicate (2 - (lg_sl [.ref mo, .int (nI i)]).length) Slot.unset).toArray) [] := by rw [hargs]; exact lg_entry_eq m _ _
  rw [he]
  change W p l e rmX3_pull s m args below meth c s.heap [] 0 0 (MQ below (QcRead (mPull F)) args s 0 0 (fun _ => False)) _
  obtain ⟨Q, hQ⟩ : ∃ Q, Q = MQ below (QcRead (mPull F)) args s 0 0 (fun _ => False) := ⟨_, rfl⟩
  rw [← hQ]
  have hl := lv_entry [.ref mo, .int (nI i)] (n := 2) (Nat.le_of_ble_eq_true rfl)
  generalize (lg_sl [.ref mo, .int (nI i)] ++ List.replicate (2 - (lg_sl [.ref mo, .int (nI i)]).length) Slot.unset).toArray = ls at hl ⊢
  have hl : lv_has ls 2 [(0, .ref mo), (1, .int (nI i))] := hl
  refine lv_aload_n hx hb dX3_pull_0 rfl (lv_at hl 0 rfl) ?_
  refine lv_iload_n hx hb dX3_pull_1 rfl (lv_at hl 1 rfl) ?_
  refine lv_iconst (v := 3) hx hb dX3_pull_2 (by decide) ?_
  refine sp_rV (rest := []) (As := [.int (nI i), .int (nI 3)]) ⟨hx, hb, hml, hown, hts⟩ (mX3_get l D cI cT mo g0 t0 z0 MF tv i 3 (F 3) (by omega) (by omega) (by rw [hT]; rfl)) (cwV 2 hts gX3_pull_X3_get rfl rfl rfl (by decide +kernel) ⟨Nat.le_of_ble_eq_true rfl, Nat.le_of_ble_eq_true rfl⟩) hK (sp_pick hP [0, 1] rfl) (ci := 3) rfl rfl rfl rfl hl.1 rfl (Nat.le_of_ble_eq_true rfl) dX3_pull_3 ⟨Nat.le_of_ble_eq_true rfl, Nat.le_of_ble_eq_true rfl⟩ ?_
  refine lv_aload_n hx hb dX3_pull_6 rfl (lv_at hl 0 rfl) ?_
  refine lv_iload_n hx hb dX3_pull_7 rfl (lv_at hl 1 rfl) ?_
  refine lv_iconst (v := 4) hx hb dX3_pull_8 (by decide) ?_
  refine sp_rV (rest := [.int (F 3)]) (As := [.int (nI i), .int (nI 4)]) ⟨hx, hb, hml, hown, hts⟩ (mX3_get l D cI cT mo g0 t0 z0 MF tv i 4 (F 4) (by omega) (by omega) (by rw [hT]; rfl)) (cwV 2 hts gX3_pull_X3_get rfl rfl rfl (by decide +kernel) ⟨Nat.le_of_ble_eq_true rfl, Nat.le_of_ble_eq_true rfl⟩) hK (sp_pick hP [0, 1] rfl) (ci := 3) rfl rfl rfl rfl hl.1 rfl (Nat.le_of_ble_eq_true rfl) dX3_pull_9 ⟨Nat.le_of_ble_eq_true rfl, Nat.le_of_ble_eq_true rfl⟩ ?_
  refine lv_imul hx hb dX3_pull_12 ?_
  refine lv_aload_n hx hb dX3_pull_13 rfl (lv_at hl 0 rfl) ?_
  refine lv_iload_n hx hb dX3_pull_14 rfl (lv_at hl 1 rfl) ?_
  refine lv_bipush (v := 7) hx hb dX3_pull_15 (by decide) ?_
  refine sp_rV (rest := [.int ((F 3) * (F 4))]) (As := [.int (nI i), .int (nI 7)]) ⟨hx, hb, hml, hown, hts⟩ (mX3_get l D cI cT mo g0 t0 z0 MF tv i 7 (F 7) (by omega) (by omega) (by rw [hT]; rfl)) (cwV 2 hts gX3_pull_X3_get rfl rfl rfl (by decide +kernel) ⟨Nat.le_of_ble_eq_true rfl, Nat.le_of_ble_eq_true rfl⟩) hK (sp_pick hP [0, 1] rfl) (ci := 3) rfl rfl rfl rfl hl.1 rfl (Nat.le_of_ble_eq_true rfl) dX3_pull_17 ⟨Nat.le_of_ble_eq_true rfl, Nat.le_of_ble_eq_true rfl⟩ ?_
  refine lv_imul hx hb dX3_pull_20 ?_
  refine lv_sipush (v := 500) hx hb dX3_pull_21 (by decide) ?_
  refine lv_aload_n hx hb dX3_pull_24 rfl (lv_at hl 0 rfl) ?_
  refine lv_iload_n hx hb dX3_pull_25 rfl (lv_at hl 1 rfl) ?_
  refine lv_bipush (v := 10) hx hb dX3_pull_26 (by decide) ?_
  refine sp_rV (rest := [.int 500, .int (((F 3) * (F 4)) * (F 7))]) (As := [.int (nI i), .int (nI 10)]) ⟨hx, hb, hml, hown, hts⟩ (mX3_get l D cI cT mo g0 t0 z0 MF tv i 10 (F 10) (by omega) (by omega) (by rw [hT]; rfl)) (cwV 2 hts gX3_pull_X3_get rfl rfl rfl (by decide +kernel) ⟨Nat.le_of_ble_eq_true rfl, Nat.le_of_ble_eq_true rfl⟩) hK (sp_pick hP [0, 1] rfl) (ci := 3) rfl rfl rfl rfl hl.1 rfl (Nat.le_of_ble_eq_true rfl) dX3_pull_28 ⟨Nat.le_of_ble_eq_true rfl, Nat.le_of_ble_eq_true rfl⟩ ?_
  refine lv_iadd hx hb dX3_pull_31 ?_
  refine lv_imul hx hb dX3_pull_32 ?_
  refine lv_sipush (v := 5000) hx hb dX3_pull_33 (by decide) ?_
  refine lv_idiv hx hb dX3_pull_36 (by decide) ?_
  subst hQ
  exact W.iret hx hb hr (fun t ht _ => ⟨rfl, ht⟩) (fun _ h => nomatch h) dX3_pull_37

abbrev rmX3_stretchAt : Room := { frames := 0, cells := 0, slots := 0, locals := 0 }
set_option maxHeartbeats 4000000 in
set_option maxRecDepth 100000 in
/-- the stretch to which a place belongs -/
theorem mX3_stretchAt (l : Launch) (D : va_G) (cI cT : ClassId) (mo g0 t0 z0 : Nat) (MF : Nat → Int32) (g : Nat → Int32) (x : Int32) (ns : Nat) (hns0 : 0 < ns) (hns : ns ≤ 12) (h5 : MF 5 = nI ns) : MetR l D cI cT yX3_stretchAt wsX3_stretchAt rmX3_stretchAt [.ref mo, .int x] [(mo, oM MF g0 t0 z0), (g0, aI cI 39 g)] (nI (mStr g x (ns - 1))) := by
  refine Met.ofW (cc := cX3_stretchAt) (maxL := 3) (ret := (some .int)) (by decide) rfl ?_
  intro p e s m args below meth c s₁ B hml hv
  obtain ⟨hargs, hP, hK⟩ := hv
  have hx := B.exec
  have hb := B.bytes
  have hr := B.returns
  have hts := atoms_spec (ws := wsX3_stretchAt) B.pre
  have hown : s.vm.findClass RX3 = some m.cls := findClass_of_methodNamed B.named
  have hlocks := B.notSynchronized
  have hiX3 : ∀ w ∈ u_ws RX3 TX3 9, w ∈ wsX3_stretchAt := by decide +kernel
  have he : entryFrame m args 3 = F0 m 0 ((lg_sl [.ref mo, .int x] ++ List.replicate (3 - (lg_sl [.ref mo, .int x]).length) Slot.unset).toArray) [] := by rw [hargs]; exact lg_entry_eq m _ _
  rw [he]
  change W p l e rmX3_stretchAt s m args below meth c s.heap [] 0 0 (MQ below (QcRead (nI (mStr g x (ns - 1)))) args s 0 0 (fun _ => False)) _
  obtain ⟨Q, hQ⟩ : ∃ Q, Q = MQ below (QcRead (nI (mStr g x (ns - 1)))) args s 0 0 (fun _ => False) := ⟨_, rfl⟩
  rw [← hQ]
  have hl := lv_entry [.ref mo, .int x] (n := 3) (Nat.le_of_ble_eq_true rfl)
  generalize (lg_sl [.ref mo, .int x] ++ List.replicate (3 - (lg_sl [.ref mo, .int x]).length) Slot.unset).toArray = ls at hl ⊢
  have hl : lv_has ls 3 [(0, .ref mo), (1, .int x)] := hl
  refine lv_aload_n hx hb dX3_stretchAt_0 rfl (lv_at hl 0 rfl) ?_
  refine va_get (D := D) (ci := 3) (v := .int (nI ns)) (C := RX3) (T := TX3) (N := 9) hx hb hts hiX3 hown hK.1 hP 0 rfl rfl 5 (by decide) (hts (.fieldLink RX3 13 "SledgeRaceModel" "stretches" "I") (by decide +kernel)) (fun _ h9 => h9) (congrArg (fun z => some (Value.int z)) h5) dX3_stretchAt_1 ?_
  refine lv_iconst (v := 1) hx hb dX3_stretchAt_4 (by decide) ?_
  refine lv_isub hx hb dX3_stretchAt_5 ?_
  refine sp_top (show nI ns - 1 = nI (ns - 1) from pk_sub hns0) ?_
  refine lv_istore_n (lv' := [(2, .int (nI (ns - 1))), (0, .ref mo), (1, .int x)]) hx hb dX3_stretchAt_6 rfl hl (by decide) rfl (fun ls hl => ?_)
  have loop7 : ∀ (fu : Nat) (k : Nat), k < fu → (k < ns) → (mStr g x (ns - 1) = mStr g x k) → ∀ (ls : Array Slot), lv_has ls 3 [(2, .int (nI k)), (0, .ref mo), (1, .int x)] → W p l e rmX3_stretchAt s m args below meth c s.heap [] 0 0 Q (F0 m 7 ls []) := by
    intro fu
    induction fu with
    | zero => intro k hfu; exact absurd hfu (Nat.not_lt_zero _)
    | succ fu ih7 =>
      intro k hfu7 hk ek
      intro ls hl
      refine lv_iload_n hx hb dX3_stretchAt_7 rfl (lv_at hl 0 rfl) ?_
      refine lx_if_le (tgt := 29) hx hb dX3_stretchAt_8 (by decide) (fun c8 => ?_) (fun c8 => ?_)
      · skip
        refine lv_iload_n hx hb dX3_stretchAt_29 rfl (lv_at hl 0 rfl) ?_
        refine sp_top (show nI k = nI (mStr g x (ns - 1)) from by rw [ek, sp_zero c8 (by omega)]; rfl) ?_
        subst hQ
        exact W.iret hx hb hr (fun t ht _ => ⟨rfl, ht⟩) (fun _ h => nomatch h) dX3_stretchAt_30
      · skip
        obtain ⟨k', rfl⟩ : ∃ k', k = k' + 1 := ⟨k - 1, by have := sp_pos c8 (by omega); omega⟩
        refine lv_aload_n hx hb dX3_stretchAt_11 rfl (lv_at hl 1 rfl) ?_
        refine va_get (D := D) (ci := 3) (v := .ref g0) (C := RX3) (T := TX3) (N := 9) hx hb hts hiX3 hown hK.1 hP 0 rfl rfl 6 (by decide) (hts (.fieldLink RX3 16 "SledgeRaceModel" "ground" "[I") (by decide +kernel)) (fun _ h9 => h9) rfl dX3_stretchAt_12 ?_
        refine lv_iconst (v := nI 3) hx hb dX3_stretchAt_15 (by decide) ?_
        refine lv_iload_n hx hb dX3_stretchAt_16 rfl (lv_at hl 0 rfl) ?_
        refine lv_imul hx hb dX3_stretchAt_17 ?_
        refine sp_top (pk_mul 3 (k' + 1) : (nI 3) * (nI (k' + 1)) = nI (3 * (k' + 1))) ?_
        refine sp_iald hx hb hK.1 hP 1 0 rfl rfl (by omega) (by omega) dX3_stretchAt_18 ?_
        refine lv_iload_n hx hb dX3_stretchAt_19 rfl (lv_at hl 2 rfl) ?_
        refine lx_icmp_le (tgt := 29) hx hb dX3_stretchAt_20 (by decide) (fun c20 => ?_) (fun c20 => ?_)
        · skip
          refine lv_iload_n hx hb dX3_stretchAt_29 rfl (lv_at hl 0 rfl) ?_
          refine sp_top (show nI (k' + 1) = nI (mStr g x (ns - 1)) from by rw [ek, mStr, if_neg c20]) ?_
          subst hQ
          exact W.iret hx hb hr (fun t ht _ => ⟨rfl, ht⟩) (fun _ h => nomatch h) dX3_stretchAt_30
        · skip
          refine lv_iinc (v := nI k') (lv' := [(2, .int (nI k')), (0, .ref mo), (1, .int x)]) hx hb dX3_stretchAt_23 hl (k := 0) rfl ((pk_m1 k')) (by decide) rfl (fun ls hl => ?_)
          refine lv_goto (tgt := 7) hx hb dX3_stretchAt_26 (by decide) ?_
          exact ih7 k' (by omega) (by omega) (by rw [ek, mStr, if_pos c20]) ls (lv_sub hl [0, 1, 2] rfl)
  exact loop7 _ (ns - 1) (Nat.lt_succ_self _) (by omega) (rfl) ls (lv_sub hl [0, 1, 2] rfl)

abbrev rmX3_drag : Room := { frames := 4, cells := 0, slots := 0, locals := 92 }
set_option maxHeartbeats 4000000 in
set_option maxRecDepth 100000 in
/-- the drag -/
theorem mX3_drag (l : Launch) (D : va_G) (cI cT : ClassId) (mo g0 t0 z0 : Nat) (MF : Nat → Int32) (g : Nat → Int32) (tv : Nat → TV) (i : Nat) (hi6 : i < 6) (F P L G : Nat → Int32) (hT : tv i = (F, P, L, G)) (n : Nat) (hn : n ≤ 8) (h2 : F 2 = nI n) (ns : Nat) (hns0 : 0 < ns) (hns : ns ≤ 12) (h5 : MF 5 = nI ns) : MetR l D cI cT yX3_drag wsX3_drag rmX3_drag [.ref mo, .int (nI i)] [(mo, oM MF g0 t0 z0), (g0, aI cI 39 g), (t0, aI cI 174 (tab tv))] (mDrag F P L n g ns) := by
  refine Met.ofW (cc := cX3_drag) (maxL := 7) (ret := (some .int)) (by decide) rfl ?_
  intro p e s m args below meth c s₁ B hml hv
  obtain ⟨hargs, hP, hK⟩ := hv
  have hx := B.exec
  have hb := B.bytes
  have hr := B.returns
  have hts := atoms_spec (ws := wsX3_drag) B.pre
  have hown : s.vm.findClass RX3 = some m.cls := findClass_of_methodNamed B.named
  have hlocks := B.notSynchronized
  have hiX3 : ∀ w ∈ u_ws RX3 TX3 9, w ∈ wsX3_drag := by decide +kernel
  have he : entryFrame m args 7 = F0 m 0 ((lg_sl [.ref mo, .int (nI i)] ++ List.replicate (7 - (lg_sl [.ref mo, .int (nI i)]).length) Slot.unset).toArray) [] := by rw [hargs]; exact lg_entry_eq m _ _
  rw [he]
  change W p l e rmX3_drag s m args below meth c s.heap [] 0 0 (MQ below (QcRead (mDrag F P L n g ns)) args s 0 0 (fun _ => False)) _
  obtain ⟨Q, hQ⟩ : ∃ Q, Q = MQ below (QcRead (mDrag F P L n g ns)) args s 0 0 (fun _ => False) := ⟨_, rfl⟩
  rw [← hQ]
  have hl := lv_entry [.ref mo, .int (nI i)] (n := 7) (Nat.le_of_ble_eq_true rfl)
  generalize (lg_sl [.ref mo, .int (nI i)] ++ List.replicate (7 - (lg_sl [.ref mo, .int (nI i)]).length) Slot.unset).toArray = ls at hl ⊢
  have hl : lv_has ls 7 [(0, .ref mo), (1, .int (nI i))] := hl
  refine lv_aload_n hx hb dX3_drag_0 rfl (lv_at hl 0 rfl) ?_
  refine lv_aload_n hx hb dX3_drag_1 rfl (lv_at hl 0 rfl) ?_
  refine lv_iload_n hx hb dX3_drag_2 rfl (lv_at hl 1 rfl) ?_
  refine lv_bipush (v := 9) hx hb dX3_drag_3 (by decide) ?_
  refine sp_rV (rest := [.ref mo]) (As := [.int (nI i), .int (nI 9)]) ⟨hx, hb, hml, hown, hts⟩ (mX3_get l D cI cT mo g0 t0 z0 MF tv i 9 (F 9) (by omega) (by omega) (by rw [hT]; rfl)) (cwV 2 hts gX3_drag_X3_get rfl rfl rfl (by decide +kernel) ⟨Nat.le_of_ble_eq_true rfl, Nat.le_of_ble_eq_true rfl⟩) hK (sp_pick hP [0, 2] rfl) (ci := 3) rfl rfl rfl rfl hl.1 rfl (Nat.le_of_ble_eq_true rfl) dX3_drag_5 ⟨Nat.le_of_ble_eq_true rfl, Nat.le_of_ble_eq_true rfl⟩ ?_
  refine sp_rV (rest := []) (As := [.int (F 9)]) ⟨hx, hb, hml, hown, hts⟩ (mX3_stretchAt l D cI cT mo g0 t0 z0 MF g (F 9) ns hns0 hns h5) (cwV 1 hts gX3_drag_X3_stretchAt rfl rfl rfl (by decide +kernel) ⟨Nat.le_of_ble_eq_true rfl, Nat.le_of_ble_eq_true rfl⟩) hK (sp_pick hP [0, 1] rfl) (ci := 3) rfl rfl rfl rfl hl.1 rfl (Nat.le_of_ble_eq_true rfl) dX3_drag_8 ⟨Nat.le_of_ble_eq_true rfl, Nat.le_of_ble_eq_true rfl⟩ ?_
  have hstr := mStr_le g (F 9) (ns - 1)
  refine lv_istore_n (lv' := [(2, .int (nI (mStr g (F 9) (ns - 1)))), (0, .ref mo), (1, .int (nI i))]) hx hb dX3_drag_11 rfl hl (by decide) rfl (fun ls hl => ?_)
  refine lv_aload_n hx hb dX3_drag_12 rfl (lv_at hl 1 rfl) ?_
  refine lv_iload_n hx hb dX3_drag_13 rfl (lv_at hl 2 rfl) ?_
  refine lv_iconst (v := 1) hx hb dX3_drag_14 (by decide) ?_
  refine sp_rV (rest := []) (As := [.int (nI i), .int (nI 1)]) ⟨hx, hb, hml, hown, hts⟩ (mX3_get l D cI cT mo g0 t0 z0 MF tv i 1 (F 1) (by omega) (by omega) (by rw [hT]; rfl)) (cwV 2 hts gX3_drag_X3_get rfl rfl rfl (by decide +kernel) ⟨Nat.le_of_ble_eq_true rfl, Nat.le_of_ble_eq_true rfl⟩) hK (sp_pick hP [0, 2] rfl) (ci := 3) rfl rfl rfl rfl hl.1 rfl (Nat.le_of_ble_eq_true rfl) dX3_drag_15 ⟨Nat.le_of_ble_eq_true rfl, Nat.le_of_ble_eq_true rfl⟩ ?_
  refine lv_istore_n (lv' := [(3, .int (F 1)), (2, .int (nI (mStr g (F 9) (ns - 1)))), (0, .ref mo), (1, .int (nI i))]) hx hb dX3_drag_18 rfl hl (by decide) rfl (fun ls hl => ?_)
  refine lv_aload_n hx hb dX3_drag_19 rfl (lv_at hl 2 rfl) ?_
  refine va_get (D := D) (ci := 3) (v := .ref g0) (C := RX3) (T := TX3) (N := 9) hx hb hts hiX3 hown hK.1 hP 0 rfl rfl 6 (by decide) (hts (.fieldLink RX3 16 "SledgeRaceModel" "ground" "[I") (by decide +kernel)) (fun _ h9 => h9) rfl dX3_drag_20 ?_
  refine lv_iconst (v := nI 3) hx hb dX3_drag_23 (by decide) ?_
  refine lv_iload_n hx hb dX3_drag_24 rfl (lv_at hl 1 rfl) ?_
  refine lv_imul hx hb dX3_drag_25 ?_
  refine sp_top (pk_mul 3 (mStr g (F 9) (ns - 1)) : (nI 3) * (nI (mStr g (F 9) (ns - 1))) = nI (3 * (mStr g (F 9) (ns - 1)))) ?_
  refine lv_iconst (v := nI 2) hx hb dX3_drag_26 (by decide) ?_
  refine lv_iadd hx hb dX3_drag_27 ?_
  refine sp_top (nI_add (3 * (mStr g (F 9) (ns - 1))) 2 : (nI (3 * (mStr g (F 9) (ns - 1)))) + (nI 2) = nI (3 * (mStr g (F 9) (ns - 1)) + 2)) ?_
  refine sp_iald hx hb hK.1 hP 1 0 rfl rfl (by omega) (by omega) dX3_drag_28 ?_
  refine lv_istore (lv' := [(4, .int (g (3 * (mStr g (F 9) (ns - 1)) + 2))), (3, .int (F 1)), (2, .int (nI (mStr g (F 9) (ns - 1)))), (0, .ref mo), (1, .int (nI i))]) hx hb dX3_drag_29 hl (by decide) rfl (fun ls hl => ?_)
  refine lv_aload_n hx hb dX3_drag_31 rfl (lv_at hl 3 rfl) ?_
  refine lv_iload_n hx hb dX3_drag_32 rfl (lv_at hl 4 rfl) ?_
  refine lv_iconst (v := 0) hx hb dX3_drag_33 (by decide) ?_
  refine sp_rV (rest := []) (As := [.int (nI i), .int 0]) ⟨hx, hb, hml, hown, hts⟩ (mX3_many l D cI cT mo g0 t0 z0 MF tv i (by omega) F P L G (hT) 0 n hn h2) (cwV 2 hts gX3_drag_X3_many rfl rfl rfl (by decide +kernel) ⟨Nat.le_of_ble_eq_true rfl, Nat.le_of_ble_eq_true rfl⟩) hK (sp_pick hP [0, 2] rfl) (ci := 3) rfl rfl rfl rfl hl.1 rfl (Nat.le_of_ble_eq_true rfl) dX3_drag_34 ⟨Nat.le_of_ble_eq_true rfl, Nat.le_of_ble_eq_true rfl⟩ ?_
  refine lv_istore (lv' := [(5, .int (nI (mMany F P L n 0))), (4, .int (g (3 * (mStr g (F 9) (ns - 1)) + 2))), (3, .int (F 1)), (2, .int (nI (mStr g (F 9) (ns - 1)))), (0, .ref mo), (1, .int (nI i))]) hx hb dX3_drag_37 hl (by decide) rfl (fun ls hl => ?_)
  refine lv_iconst (v := 0) hx hb dX3_drag_39 (by decide) ?_
  refine lv_iload_n hx hb dX3_drag_40 rfl (lv_at hl 2 rfl) ?_
  refine lv_bipush (v := 20) hx hb dX3_drag_41 (by decide) ?_
  refine lv_bipush (v := 10) hx hb dX3_drag_43 (by decide) ?_
  refine lv_aload_n hx hb dX3_drag_45 rfl (lv_at hl 4 rfl) ?_
  refine va_get (D := D) (ci := 3) (v := .ref g0) (C := RX3) (T := TX3) (N := 9) hx hb hts hiX3 hown hK.1 hP 0 rfl rfl 6 (by decide) (hts (.fieldLink RX3 16 "SledgeRaceModel" "ground" "[I") (by decide +kernel)) (fun _ h9 => h9) rfl dX3_drag_46 ?_
  refine lv_iconst (v := nI 3) hx hb dX3_drag_49 (by decide) ?_
  refine lv_iload_n hx hb dX3_drag_50 rfl (lv_at hl 3 rfl) ?_
  refine lv_imul hx hb dX3_drag_51 ?_
  refine sp_top (pk_mul 3 (mStr g (F 9) (ns - 1)) : (nI 3) * (nI (mStr g (F 9) (ns - 1))) = nI (3 * (mStr g (F 9) (ns - 1)))) ?_
  refine lv_iconst (v := nI 1) hx hb dX3_drag_52 (by decide) ?_
  refine lv_iadd hx hb dX3_drag_53 ?_
  refine sp_top (nI_add (3 * (mStr g (F 9) (ns - 1))) 1 : (nI (3 * (mStr g (F 9) (ns - 1)))) + (nI 1) = nI (3 * (mStr g (F 9) (ns - 1)) + 1)) ?_
  refine sp_iald hx hb hK.1 hP 1 0 rfl rfl (by omega) (by omega) dX3_drag_54 ?_
  refine lv_imul hx hb dX3_drag_55 ?_
  refine lv_iadd hx hb dX3_drag_56 ?_
  refine lv_iconst (v := 4) hx hb dX3_drag_57 (by decide) ?_
  refine lv_iload hx hb dX3_drag_58 (lv_at hl 1 rfl) ?_
  refine lv_imul hx hb dX3_drag_60 ?_
  refine lv_iadd hx hb dX3_drag_61 ?_
  refine lv_imul hx hb dX3_drag_62 ?_
  refine lv_bipush (v := 10) hx hb dX3_drag_63 (by decide) ?_
  refine lv_idiv hx hb dX3_drag_65 (by decide) ?_
  refine va_mmax hx hb (hml.trans hl.1.symm) hown (hts (.methodLink RX3 78 Lib.Math.max.name) (by decide +kernel)) (hts (.static Lib.Math.max.name) (by decide +kernel)) (hts (.initialized "java/lang/Math") (by decide +kernel)) (hts (.code Lib.Math.max.name Lib.Math.max.code 2 (some .int)) (by decide +kernel)) (Nat.le_of_ble_eq_true rfl) (Nat.le_of_ble_eq_true rfl) (Nat.le_of_ble_eq_true rfl) (Nat.le_of_ble_eq_true rfl) dX3_drag_66 ?_
  change W _ _ _ _ _ _ _ _ _ _ _ _ _ _ _ (F0 m 69 ls (.int (imax 0 (((F 1) * ((20 + (10 * (g (3 * (mStr g (F 9) (ns - 1)) + 1)))) + (4 * (g (3 * (mStr g (F 9) (ns - 1)) + 2))))) / 10)) :: _))
  refine lv_istore (lv' := [(6, .int (imax 0 (((F 1) * ((20 + (10 * (g (3 * (mStr g (F 9) (ns - 1)) + 1)))) + (4 * (g (3 * (mStr g (F 9) (ns - 1)) + 2))))) / 10))), (5, .int (nI (mMany F P L n 0))), (4, .int (g (3 * (mStr g (F 9) (ns - 1)) + 2))), (3, .int (F 1)), (2, .int (nI (mStr g (F 9) (ns - 1)))), (0, .ref mo), (1, .int (nI i))]) hx hb dX3_drag_69 hl (by decide) rfl (fun ls hl => ?_)
  refine lv_iload_n hx hb dX3_drag_71 rfl (lv_at hl 3 rfl) ?_
  refine lv_bipush (v := 10) hx hb dX3_drag_72 (by decide) ?_
  refine lv_idiv hx hb dX3_drag_74 (by decide) ?_
  refine lv_iload hx hb dX3_drag_75 (lv_at hl 0 rfl) ?_
  refine lv_iconst (v := 4) hx hb dX3_drag_77 (by decide) ?_
  refine lv_iload hx hb dX3_drag_78 (lv_at hl 1 rfl) ?_
  refine va_mmin hx hb (hml.trans hl.1.symm) hown (hts (.methodLink RX3 83 Lib.Math.min.name) (by decide +kernel)) (hts (.static Lib.Math.min.name) (by decide +kernel)) (hts (.initialized "java/lang/Math") (by decide +kernel)) (hts (.code Lib.Math.min.name Lib.Math.min.code 2 (some .int)) (by decide +kernel)) (Nat.le_of_ble_eq_true rfl) (Nat.le_of_ble_eq_true rfl) (Nat.le_of_ble_eq_true rfl) (Nat.le_of_ble_eq_true rfl) dX3_drag_80 ?_
  change W _ _ _ _ _ _ _ _ _ _ _ _ _ _ _ (F0 m 83 ls (.int (imin 4 (nI (mMany F P L n 0))) :: _))
  refine lv_iload_n hx hb dX3_drag_83 rfl (lv_at hl 3 rfl) ?_
  refine lv_bipush (v := 6) hx hb dX3_drag_84 (by decide) ?_
  refine lv_iload hx hb dX3_drag_86 (lv_at hl 2 rfl) ?_
  refine lv_iconst (v := 2) hx hb dX3_drag_88 (by decide) ?_
  refine lv_idiv hx hb dX3_drag_89 (by decide) ?_
  refine lv_isub hx hb dX3_drag_90 ?_
  refine lv_imul hx hb dX3_drag_91 ?_
  refine lv_bipush (v := 10) hx hb dX3_drag_92 (by decide) ?_
  refine lv_idiv hx hb dX3_drag_94 (by decide) ?_
  refine lv_imul hx hb dX3_drag_95 ?_
  refine lv_isub hx hb dX3_drag_96 ?_
  refine va_mmax hx hb (hml.trans hl.1.symm) hown (hts (.methodLink RX3 78 Lib.Math.max.name) (by decide +kernel)) (hts (.static Lib.Math.max.name) (by decide +kernel)) (hts (.initialized "java/lang/Math") (by decide +kernel)) (hts (.code Lib.Math.max.name Lib.Math.max.code 2 (some .int)) (by decide +kernel)) (Nat.le_of_ble_eq_true rfl) (Nat.le_of_ble_eq_true rfl) (Nat.le_of_ble_eq_true rfl) (Nat.le_of_ble_eq_true rfl) dX3_drag_97 ?_
  change W _ _ _ _ _ _ _ _ _ _ _ _ _ _ _ (F0 m 100 ls (.int (imax ((F 1) / 10) ((imax 0 (((F 1) * ((20 + (10 * (g (3 * (mStr g (F 9) (ns - 1)) + 1)))) + (4 * (g (3 * (mStr g (F 9) (ns - 1)) + 2))))) / 10)) - ((imin 4 (nI (mMany F P L n 0))) * (((F 1) * (6 - ((g (3 * (mStr g (F 9) (ns - 1)) + 2)) / 2))) / 10)))) :: _))
  refine lv_istore (lv' := [(6, .int (imax ((F 1) / 10) ((imax 0 (((F 1) * ((20 + (10 * (g (3 * (mStr g (F 9) (ns - 1)) + 1)))) + (4 * (g (3 * (mStr g (F 9) (ns - 1)) + 2))))) / 10)) - ((imin 4 (nI (mMany F P L n 0))) * (((F 1) * (6 - ((g (3 * (mStr g (F 9) (ns - 1)) + 2)) / 2))) / 10))))), (5, .int (nI (mMany F P L n 0))), (4, .int (g (3 * (mStr g (F 9) (ns - 1)) + 2))), (3, .int (F 1)), (2, .int (nI (mStr g (F 9) (ns - 1)))), (0, .ref mo), (1, .int (nI i))]) hx hb dX3_drag_100 hl (by decide) rfl (fun ls hl => ?_)
  refine lv_iload hx hb dX3_drag_102 (lv_at hl 1 rfl) ?_
  refine lv_iconst (v := 2) hx hb dX3_drag_104 (by decide) ?_
  refine lx_icmp_ge (tgt := 115) hx hb dX3_drag_105 (by decide) (fun c105 => ?_) (fun c105 => ?_)
  · skip
    refine lv_iload hx hb dX3_drag_115 (lv_at hl 0 rfl) ?_
    refine sp_top (show imax ((F 1) / 10) ((imax 0 (((F 1) * ((20 + (10 * (g (3 * (mStr g (F 9) (ns - 1)) + 1)))) + (4 * (g (3 * (mStr g (F 9) (ns - 1)) + 2))))) / 10)) - ((imin 4 (nI (mMany F P L n 0))) * (((F 1) * (6 - ((g (3 * (mStr g (F 9) (ns - 1)) + 2)) / 2))) / 10))) = mDrag F P L n g ns from by unfold mDrag mDragX; rw [if_neg c105]; rfl) ?_
    subst hQ
    exact W.iret hx hb hr (fun t ht _ => ⟨rfl, ht⟩) (fun _ h => nomatch h) dX3_drag_117
  · skip
    refine lv_iconst (v := 2) hx hb dX3_drag_108 (by decide) ?_
    refine lv_iload hx hb dX3_drag_109 (lv_at hl 0 rfl) ?_
    refine lv_imul hx hb dX3_drag_111 ?_
    refine lv_goto (tgt := 117) hx hb dX3_drag_112 (by decide) ?_
    refine sp_top (show 2 * (imax ((F 1) / 10) ((imax 0 (((F 1) * ((20 + (10 * (g (3 * (mStr g (F 9) (ns - 1)) + 1)))) + (4 * (g (3 * (mStr g (F 9) (ns - 1)) + 2))))) / 10)) - ((imin 4 (nI (mMany F P L n 0))) * (((F 1) * (6 - ((g (3 * (mStr g (F 9) (ns - 1)) + 2)) / 2))) / 10)))) = mDrag F P L n g ns from by unfold mDrag mDragX; rw [if_pos c105]; rfl) ?_
    subst hQ
    exact W.iret hx hb hr (fun t ht _ => ⟨rfl, ht⟩) (fun _ h => nomatch h) dX3_drag_117

abbrev rmX3_way : Room := { frames := 5, cells := 0, slots := 0, locals := 118 }
set_option maxHeartbeats 4000000 in
set_option maxRecDepth 100000 in
/-- the way -/
theorem mX3_way (l : Launch) (D : va_G) (cI cT : ClassId) (mo g0 t0 z0 : Nat) (MF : Nat → Int32) (g : Nat → Int32) (tv : Nat → TV) (i : Nat) (hi6 : i < 6) (F P L G : Nat → Int32) (hT : tv i = (F, P, L, G)) (n : Nat) (hn : n ≤ 8) (h2 : F 2 = nI n) (ns : Nat) (hns0 : 0 < ns) (hns : ns ≤ 12) (h5 : MF 5 = nI ns) (hw : ¬ F 1 = 0) : MetR l D cI cT yX3_way wsX3_way rmX3_way [.ref mo, .int (nI i)] [(mo, oM MF g0 t0 z0), (g0, aI cI 39 g), (t0, aI cI 174 (tab tv))] (mWay F P L n g ns) := by
  refine Met.ofW (cc := cX3_way) (maxL := 2) (ret := (some .int)) (by decide) rfl ?_
  intro p e s m args below meth c s₁ B hml hv
  obtain ⟨hargs, hP, hK⟩ := hv
  have hx := B.exec
  have hb := B.bytes
  have hr := B.returns
  have hts := atoms_spec (ws := wsX3_way) B.pre
  have hown : s.vm.findClass RX3 = some m.cls := findClass_of_methodNamed B.named
  have hlocks := B.notSynchronized
  have hiX3 : ∀ w ∈ u_ws RX3 TX3 9, w ∈ wsX3_way := by decide +kernel
  have he : entryFrame m args 2 = F0 m 0 ((lg_sl [.ref mo, .int (nI i)] ++ List.replicate (2 - (lg_sl [.ref mo, .int (nI i)]).length) Slot.unset).toArray) [] := by rw [hargs]; exact lg_entry_eq m _ _
  rw [he]
  change W p l e rmX3_way s m args below meth c s.heap [] 0 0 (MQ below (QcRead (mWay F P L n g ns)) args s 0 0 (fun _ => False)) _
  obtain ⟨Q, hQ⟩ : ∃ Q, Q = MQ below (QcRead (mWay F P L n g ns)) args s 0 0 (fun _ => False) := ⟨_, rfl⟩
  rw [← hQ]
  have hl := lv_entry [.ref mo, .int (nI i)] (n := 2) (Nat.le_of_ble_eq_true rfl)
  generalize (lg_sl [.ref mo, .int (nI i)] ++ List.replicate (2 - (lg_sl [.ref mo, .int (nI i)]).length) Slot.unset).toArray = ls at hl ⊢
  have hl : lv_has ls 2 [(0, .ref mo), (1, .int (nI i))] := hl
  refine lv_iconst (v := 0) hx hb dX3_way_0 (by decide) ?_
  refine lv_bipush (v := 12) hx hb dX3_way_1 (by decide) ?_
  refine lv_aload_n hx hb dX3_way_3 rfl (lv_at hl 0 rfl) ?_
  refine lv_iload_n hx hb dX3_way_4 rfl (lv_at hl 1 rfl) ?_
  refine sp_rV (rest := [.int 12, .int 0]) (As := [.int (nI i)]) ⟨hx, hb, hml, hown, hts⟩ (mX3_pull l D cI cT mo g0 t0 z0 MF tv i (by omega) F P L G (hT) ) (cwV 1 hts gX3_way_X3_pull rfl rfl rfl (by decide +kernel) ⟨Nat.le_of_ble_eq_true rfl, Nat.le_of_ble_eq_true rfl⟩) hK (sp_pick hP [0, 2] rfl) (ci := 3) rfl rfl rfl rfl hl.1 rfl (Nat.le_of_ble_eq_true rfl) dX3_way_5 ⟨Nat.le_of_ble_eq_true rfl, Nat.le_of_ble_eq_true rfl⟩ ?_
  refine lv_aload_n hx hb dX3_way_8 rfl (lv_at hl 0 rfl) ?_
  refine lv_iload_n hx hb dX3_way_9 rfl (lv_at hl 1 rfl) ?_
  refine sp_rV (rest := [.int (mPull F), .int 12, .int 0]) (As := [.int (nI i)]) ⟨hx, hb, hml, hown, hts⟩ (mX3_drag l D cI cT mo g0 t0 z0 MF g tv i (by omega) F P L G (hT) n hn h2 ns hns0 hns h5) (cwV 1 hts gX3_way_X3_drag rfl rfl rfl (by decide +kernel) ⟨Nat.le_of_ble_eq_true rfl, Nat.le_of_ble_eq_true rfl⟩) hK (sp_pick hP [0, 1, 2] rfl) (ci := 3) rfl rfl rfl rfl hl.1 rfl (Nat.le_of_ble_eq_true rfl) dX3_way_10 ⟨Nat.le_of_ble_eq_true rfl, Nat.le_of_ble_eq_true rfl⟩ ?_
  refine lv_isub hx hb dX3_way_13 ?_
  refine lv_iconst (v := 4) hx hb dX3_way_14 (by decide) ?_
  refine lv_imul hx hb dX3_way_15 ?_
  refine lv_aload_n hx hb dX3_way_16 rfl (lv_at hl 0 rfl) ?_
  refine lv_iload_n hx hb dX3_way_17 rfl (lv_at hl 1 rfl) ?_
  refine lv_iconst (v := 1) hx hb dX3_way_18 (by decide) ?_
  refine sp_rV (rest := [.int (((mPull F) - (mDrag F P L n g ns)) * 4), .int 12, .int 0]) (As := [.int (nI i), .int (nI 1)]) ⟨hx, hb, hml, hown, hts⟩ (mX3_get l D cI cT mo g0 t0 z0 MF tv i 1 (F 1) (by omega) (by omega) (by rw [hT]; rfl)) (cwV 2 hts gX3_way_X3_get rfl rfl rfl (by decide +kernel) ⟨Nat.le_of_ble_eq_true rfl, Nat.le_of_ble_eq_true rfl⟩) hK (sp_pick hP [0, 2] rfl) (ci := 3) rfl rfl rfl rfl hl.1 rfl (Nat.le_of_ble_eq_true rfl) dX3_way_19 ⟨Nat.le_of_ble_eq_true rfl, Nat.le_of_ble_eq_true rfl⟩ ?_
  refine lv_idiv hx hb dX3_way_22 (hw) ?_
  refine va_mmin hx hb (hml.trans hl.1.symm) hown (hts (.methodLink RX3 83 Lib.Math.min.name) (by decide +kernel)) (hts (.static Lib.Math.min.name) (by decide +kernel)) (hts (.initialized "java/lang/Math") (by decide +kernel)) (hts (.code Lib.Math.min.name Lib.Math.min.code 2 (some .int)) (by decide +kernel)) (Nat.le_of_ble_eq_true rfl) (Nat.le_of_ble_eq_true rfl) (Nat.le_of_ble_eq_true rfl) (Nat.le_of_ble_eq_true rfl) dX3_way_23 ?_
  change W _ _ _ _ _ _ _ _ _ _ _ _ _ _ _ (F0 m 26 ls (.int (imin 12 ((((mPull F) - (mDrag F P L n g ns)) * 4) / (F 1))) :: _))
  refine va_mmax hx hb (hml.trans hl.1.symm) hown (hts (.methodLink RX3 78 Lib.Math.max.name) (by decide +kernel)) (hts (.static Lib.Math.max.name) (by decide +kernel)) (hts (.initialized "java/lang/Math") (by decide +kernel)) (hts (.code Lib.Math.max.name Lib.Math.max.code 2 (some .int)) (by decide +kernel)) (Nat.le_of_ble_eq_true rfl) (Nat.le_of_ble_eq_true rfl) (Nat.le_of_ble_eq_true rfl) (Nat.le_of_ble_eq_true rfl) dX3_way_26 ?_
  change W _ _ _ _ _ _ _ _ _ _ _ _ _ _ _ (F0 m 29 ls (.int (imax 0 (imin 12 ((((mPull F) - (mDrag F P L n g ns)) * 4) / (F 1)))) :: _))
  subst hQ
  exact W.iret hx hb hr (fun t ht _ => ⟨rfl, ht⟩) (fun _ h => nomatch h) dX3_way_29
