abbrev rmX3_tickOn : Room := { frames := 8, cells := 0, slots := 0, locals := 184 }
set_option maxHeartbeats 4000000 in
set_option maxRecDepth 100000 in
/-- a tick of all -/
theorem mX3_tickOn (l : Launch) (D : va_G) (cI cT : ClassId) (mo g0 t0 z0 : Nat) (MF : Nat → Int32) (g : Nat → Int32) (tv : Nat → TV) (ns : Nat) (hns0 : 0 < ns) (hns : ns ≤ 12) (h5 : MF 5 = nI ns) (nt : Nat) (hnt : nt ≤ 6) (ht : MF 2 = nI nt) (hok : ∀ t, t < nt → mOK (tv t)) : MetV l D cI cT yX3_tickOn wsX3_tickOn rmX3_tickOn [.ref mo] [(mo, oM MF g0 t0 z0), (g0, aI cI 39 g), (t0, aI cI 174 (tab tv))] [] [(mo, oM (mStep g ns nt (MF, tv)).1 g0 t0 z0), (g0, aI cI 39 g), (t0, aI cI 174 (tab (mStep g ns nt (MF, tv)).2))] := by
  refine Met.ofW (cc := cX3_tickOn) (maxL := 2) (ret := none) (by decide) rfl ?_
  intro p e s m args below meth c s₁ B hml hv
  obtain ⟨hargs, hP, hR0, hK, hN⟩ := hv
  have hx := B.exec
  have hb := B.bytes
  have hr := B.returns
  have hts := atoms_spec (ws := wsX3_tickOn) B.pre
  have hown : s.vm.findClass RX3 = some m.cls := findClass_of_methodNamed B.named
  have hlocks := B.notSynchronized
  have hiX3 : ∀ w ∈ u_ws RX3 TX3 9, w ∈ wsX3_tickOn := by decide +kernel
  have he : entryFrame m args 2 = F0 m 0 ((lg_sl [.ref mo] ++ List.replicate (2 - (lg_sl [.ref mo]).length) Slot.unset).toArray) [] := by rw [hargs]; exact lg_entry_eq m _ _
  rw [he]
  change W p l e rmX3_tickOn s m args below meth c s.heap [] 0 0 (MQ below (va_Qv (S := Unit) (fun _ => True) (fun _ t => va_P D vwCl [(mo, oM (mStep g ns nt (MF, tv)).1 g0 t0 z0), (g0, aI cI 39 g), (t0, aI cI 174 (tab (mStep g ns nt (MF, tv)).2))] t.heap) (fr (List.map Prod.fst [(mo, oM MF g0 t0 z0), (g0, aI cI 39 g), (t0, aI cI 174 (tab tv))]))) args s 0 0 (fr (List.map Prod.fst [(mo, oM MF g0 t0 z0), (g0, aI cI 39 g), (t0, aI cI 174 (tab tv))]))) _
  obtain ⟨Q, hQ⟩ : ∃ Q, Q = MQ below (va_Qv (S := Unit) (fun _ => True) (fun _ t => va_P D vwCl [(mo, oM (mStep g ns nt (MF, tv)).1 g0 t0 z0), (g0, aI cI 39 g), (t0, aI cI 174 (tab (mStep g ns nt (MF, tv)).2))] t.heap) (fr (List.map Prod.fst [(mo, oM MF g0 t0 z0), (g0, aI cI 39 g), (t0, aI cI 174 (tab tv))]))) args s 0 0 (fr (List.map Prod.fst [(mo, oM MF g0 t0 z0), (g0, aI cI 39 g), (t0, aI cI 174 (tab tv))])) := ⟨_, rfl⟩
  rw [← hQ]
  have hl := lv_entry [.ref mo] (n := 2) (Nat.le_of_ble_eq_true rfl)
  generalize (lg_sl [.ref mo] ++ List.replicate (2 - (lg_sl [.ref mo]).length) Slot.unset).toArray = ls at hl ⊢
  have hl : lv_has ls 2 [(0, .ref mo)] := hl
  obtain ⟨A, hAe⟩ : ∃ A, A = (fr (List.map Prod.fst [(mo, oM MF g0 t0 z0), (g0, aI cI 39 g), (t0, aI cI 174 (tab tv))])) := ⟨_, rfl⟩
  have hA0 : ∀ q ∈ List.map Prod.fst [(mo, oM MF g0 t0 z0), (g0, aI cI 39 g), (t0, aI cI 174 (tab tv))], A q := by rw [hAe]; exact fun q h => h
  have hD : va_D A [(mo, oM MF g0 t0 z0), (g0, aI cI 39 g), (t0, aI cI 174 (tab tv))] := sp_D (List.nodup_append.mp (show (([(mo, oM MF g0 t0 z0), (g0, aI cI 39 g), (t0, aI cI 174 (tab tv))] : va_W).map Prod.fst ++ ([] : va_W).map Prod.fst).Nodup by rw [← List.map_append]; exact hN)).1 hA0
  have hN : (List.map Prod.fst ([(mo, oM MF g0 t0 z0), (g0, aI cI 39 g), (t0, aI cI 174 (tab tv))] ++ []) : List Nat).Nodup := hN
  have hS : va_S A s.heap s.heap [] := va_S.rf
  obtain ⟨H, hH0⟩ : ∃ H, H = s.heap := ⟨_, rfl⟩
  obtain ⟨locs, hlo⟩ : ∃ L : List Loc, L = [] := ⟨_, rfl⟩
  have hP : va_P D vwCl [(mo, oM MF g0 t0 z0), (g0, aI cI 39 g), (t0, aI cI 174 (tab tv))] H := by rw [hH0]; exact hP
  have hS : va_S A s.heap H locs := by rw [hH0, hlo]; exact hS
  rw [show W p l e rmX3_tickOn s m args below meth c s.heap [] 0 0 Q (F0 m 0 ls []) = W p l e rmX3_tickOn s m args below meth c H locs 0 0 Q (F0 m 0 ls []) by rw [hH0, hlo]]
  clear hH0 hlo
  refine lv_aload_n hx hb dX3_tickOn_0 rfl (lv_at hl 0 rfl) ?_
  refine lv_dup hx hb dX3_tickOn_1 rfl ?_
  refine va_get (D := D) (ci := 3) (v := .int (MF 1)) (C := RX3) (T := TX3) (N := 9) hx hb hts hiX3 hown hK.1 hP 0 rfl rfl 1 (by decide) (hts (.fieldLink RX3 40 "SledgeRaceModel" "tick" "I") (by decide +kernel)) (fun _ h9 => h9) rfl dX3_tickOn_2 ?_
  refine lv_iconst (v := 1) hx hb dX3_tickOn_5 (by decide) ?_
  refine lv_iadd hx hb dX3_tickOn_6 ?_
  refine va_put (D := D) (ci := 3) (v := .int ((MF 1) + 1)) (ty := .int) (C := RX3) (T := TX3) (N := 9) hx hb hts hiX3 tyX3 tyX3_ok nmX3 hown hK.1 hP hD hS 0 rfl rfl 1 (by decide) (hts (.fieldLink RX3 40 "SledgeRaceModel" "tick" "I") (by decide +kernel)) (fun _ h9 => h9) rfl (by decide +kernel) rfl rfl (Nat.le_of_ble_eq_true rfl) dX3_tickOn_7 (fun H locs hP hD hS => ?_)
  have hP : va_P D vwCl [(mo, oM (upd MF 1 ((MF 1) + 1)) g0 t0 z0), (g0, aI cI 39 g), (t0, aI cI 174 (tab tv))] H := hP
  have hD : va_D A [(mo, oM (upd MF 1 ((MF 1) + 1)) g0 t0 z0), (g0, aI cI 39 g), (t0, aI cI 174 (tab tv))] := hD
  refine lv_iconst (v := nI 0) hx hb dX3_tickOn_10 (by decide) ?_
  refine lv_istore_n (lv' := [(1, .int (nI 0)), (0, .ref mo)]) hx hb dX3_tickOn_11 rfl hl (by decide) rfl (fun ls hl => ?_)
  have loop12 : ∀ (fu : Nat) (t : Nat), (nt - t) < fu → (t ≤ nt) → ∀ (H : Heap) (locs : List Loc), va_P D vwCl [(mo, oM (upd (upd MF 1 (MF 1 + 1)) 4 (bkS tv (MF 4) t)) g0 t0 z0), (g0, aI cI 39 g), (t0, aI cI 174 (tab (mTv (mTickT g ns (MF 3) (MF 1 + 1)) tv t)))] H → va_D A [(mo, oM (upd (upd MF 1 (MF 1 + 1)) 4 (bkS tv (MF 4) t)) g0 t0 z0), (g0, aI cI 39 g), (t0, aI cI 174 (tab (mTv (mTickT g ns (MF 3) (MF 1 + 1)) tv t)))] → va_S A s.heap H locs → ∀ (ls : Array Slot), lv_has ls 2 [(1, .int (nI t)), (0, .ref mo)] → W p l e rmX3_tickOn s m args below meth c H locs 0 0 Q (F0 m 12 ls []) := by
    intro fu
    induction fu with
    | zero => intro t hfu; exact absurd hfu (Nat.not_lt_zero _)
    | succ fu ih12 =>
      intro t hfu12 hti
      intro H locs hP hD hS ls hl
      refine lv_iload_n hx hb dX3_tickOn_12 rfl (lv_at hl 0 rfl) ?_
      refine lv_aload_n hx hb dX3_tickOn_13 rfl (lv_at hl 1 rfl) ?_
      refine va_get (D := D) (ci := 3) (v := .int (nI nt)) (C := RX3) (T := TX3) (N := 9) hx hb hts hiX3 hown hK.1 hP 0 rfl rfl 2 (by decide) (hts (.fieldLink RX3 29 "SledgeRaceModel" "teams" "I") (by decide +kernel)) (fun _ h9 => h9) (congrArg (fun z => some (Value.int z)) ht) dX3_tickOn_14 ?_
      refine sp_ge (by omega) (by omega) (tgt := 31) hx hb dX3_tickOn_17 (by decide) (fun c17 => ?_) (fun c17 => ?_)
      · skip
        subst hQ
        have hP9 : va_P D vwCl [(mo, oM (mStep g ns nt (MF, tv)).1 g0 t0 z0), (g0, aI cI 39 g), (t0, aI cI 174 (tab (mStep g ns nt (MF, tv)).2))] H := by have en : nt = t := (by omega); subst en; exact hP
        subst hAe
        exact W.vret hx hb hr (fun t ht hW => ⟨⟨(), rfl, trivial, by show va_P D vwCl _ t.heap; rw [ht]; exact hP9⟩, hS.F ht⟩) hS.2.2 dX3_tickOn_31
      · skip
        refine lv_aload_n hx hb dX3_tickOn_20 rfl (lv_at hl 1 rfl) ?_
        refine lv_iload_n hx hb dX3_tickOn_21 rfl (lv_at hl 0 rfl) ?_
        refine sp_vV (rest := []) (As := [.int (nI t)]) (W1 := [(mo, oM (upd (upd MF 1 (MF 1 + 1)) 4 (mBk ((tv t).1, (tv t).2.1, (tv t).2.2.1, (tv t).2.2.2) ((upd (upd MF 1 (MF 1 + 1)) 4 (bkS tv (MF 4) t)) 4))) g0 t0 z0), (g0, aI cI 39 g), (t0, aI cI 174 (tab (setT (mTv (mTickT g ns (MF 3) (MF 1 + 1)) tv t) t (mTick (mN (tv t)) (mH (tv t)) g ns ((upd (upd MF 1 (MF 1 + 1)) 4 (bkS tv (MF 4) t)) 3) ((upd (upd MF 1 (MF 1 + 1)) 4 (bkS tv (MF 4) t)) 1) ((tv t).1, (tv t).2.1, (tv t).2.2.1, (tv t).2.2.2)))))]) ⟨hx, hb, hml, hown, hts⟩ (mX3_tickOf l D cI cT mo g0 t0 z0 (upd (upd MF 1 (MF 1 + 1)) 4 (bkS tv (MF 4) t)) g (mTv (mTickT g ns (MF 3) (MF 1 + 1)) tv t) t (by omega) (tv t).1 (tv t).2.1 (tv t).2.2.1 (tv t).2.2.2 (mTv_i _ _ _) (mN (tv t)) (hok t (by omega)).n.1 (hok t (by omega)).n.2 ns hns0 hns h5 (mH (tv t)) (hok t (by omega)).h.1 (hok t (by omega)).h.2 (hok t (by omega)).2.2.1 (hok t (by omega)).2.2.2) (cwV 1 hts gX3_tickOn_X3_tickOf rfl rfl rfl (by decide +kernel) ⟨Nat.le_of_ble_eq_true rfl, Nat.le_of_ble_eq_true rfl⟩) hK hP hD hS [0, 1, 2] rfl (fun k q h => by simp at h) (sp_nsub hN [0, 1, 2] (by decide) rfl) rfl rfl rfl (ci := 3) rfl rfl rfl rfl hl.1 rfl (Nat.le_of_ble_eq_true rfl) dX3_tickOn_22 ⟨Nat.le_of_ble_eq_true rfl, Nat.le_of_ble_eq_true rfl⟩ (fun H locs hP hD hS => ?_)
        have hP : va_P D vwCl [(mo, oM (upd (upd MF 1 (MF 1 + 1)) 4 (bkS tv (MF 4) (t + 1))) g0 t0 z0), (g0, aI cI 39 g), (t0, aI cI 174 (tab (mTv (mTickT g ns (MF 3) (MF 1 + 1)) tv (t + 1))))] H := by rw [← mTv_up]; exact hP
        have hD : va_D A [(mo, oM (upd (upd MF 1 (MF 1 + 1)) 4 (bkS tv (MF 4) (t + 1))) g0 t0 z0), (g0, aI cI 39 g), (t0, aI cI 174 (tab (mTv (mTickT g ns (MF 3) (MF 1 + 1)) tv (t + 1))))] := by rw [← mTv_up]; exact hD
        refine lv_iinc (v := nI (t + 1)) (lv' := [(1, .int (nI (t + 1))), (0, .ref mo)]) hx hb dX3_tickOn_25 hl (k := 0) rfl ((nI_1 t)) (by decide) rfl (fun ls hl => ?_)
        refine lv_goto (tgt := 12) hx hb dX3_tickOn_28 (by decide) ?_
        exact ih12 (t + 1) (by omega) (by omega) _ _ hP hD hS ls (lv_sub hl [0, 1] rfl)
  exact loop12 _ 0 (Nat.lt_succ_self _) (Nat.zero_le _) _ _ (by rw [mTv_0]; exact hP) (by rw [mTv_0]; exact hD) hS ls (lv_sub hl [0, 1] rfl)

abbrev rmX3_ended : Room := { frames := 1, cells := 0, slots := 0, locals := 22 }
set_option maxHeartbeats 4000000 in
set_option maxRecDepth 100000 in
/-- how many have come to the end -/
theorem mX3_ended (l : Launch) (D : va_G) (cI cT : ClassId) (mo g0 t0 z0 : Nat) (MF : Nat → Int32) (tv : Nat → TV) (nt : Nat) (hnt : nt ≤ 6) (ht : MF 2 = nI nt) : MetR l D cI cT yX3_ended wsX3_ended rmX3_ended [.ref mo] [(mo, oM MF g0 t0 z0), (t0, aI cI 174 (tab tv))] (nI (mEnded tv nt)) := by
  refine Met.ofW (cc := cX3_ended) (maxL := 3) (ret := (some .int)) (by decide) rfl ?_
  intro p e s m args below meth c s₁ B hml hv
  obtain ⟨hargs, hP, hK⟩ := hv
  have hx := B.exec
  have hb := B.bytes
  have hr := B.returns
  have hts := atoms_spec (ws := wsX3_ended) B.pre
  have hown : s.vm.findClass RX3 = some m.cls := findClass_of_methodNamed B.named
  have hlocks := B.notSynchronized
  have hiX3 : ∀ w ∈ u_ws RX3 TX3 9, w ∈ wsX3_ended := by decide +kernel
  have he : entryFrame m args 3 = F0 m 0 ((lg_sl [.ref mo] ++ List.replicate (3 - (lg_sl [.ref mo]).length) Slot.unset).toArray) [] := by rw [hargs]; exact lg_entry_eq m _ _
  rw [he]
  change W p l e rmX3_ended s m args below meth c s.heap [] 0 0 (MQ below (QcRead (nI (mEnded tv nt))) args s 0 0 (fun _ => False)) _
  obtain ⟨Q, hQ⟩ : ∃ Q, Q = MQ below (QcRead (nI (mEnded tv nt))) args s 0 0 (fun _ => False) := ⟨_, rfl⟩
  rw [← hQ]
  have hl := lv_entry [.ref mo] (n := 3) (Nat.le_of_ble_eq_true rfl)
  generalize (lg_sl [.ref mo] ++ List.replicate (3 - (lg_sl [.ref mo]).length) Slot.unset).toArray = ls at hl ⊢
  have hl : lv_has ls 3 [(0, .ref mo)] := hl
  refine lv_iconst (v := nI 0) hx hb dX3_ended_0 (by decide) ?_
  refine lv_istore_n (lv' := [(1, .int (nI 0)), (0, .ref mo)]) hx hb dX3_ended_1 rfl hl (by decide) rfl (fun ls hl => ?_)
  refine lv_iconst (v := nI 0) hx hb dX3_ended_2 (by decide) ?_
  refine lv_istore_n (lv' := [(2, .int (nI 0)), (1, .int (nI 0)), (0, .ref mo)]) hx hb dX3_ended_3 rfl hl (by decide) rfl (fun ls hl => ?_)
  have loop4 : ∀ (fu : Nat) (t : Nat) (r : Nat), (nt - t) < fu → (t ≤ nt) → (r = cnt (fun t => decide (¬ (tv t).1 13 = -1)) t) → ∀ (ls : Array Slot), lv_has ls 3 [(2, .int (nI t)), (1, .int (nI r)), (0, .ref mo)] → W p l e rmX3_ended s m args below meth c s.heap [] 0 0 Q (F0 m 4 ls []) := by
    intro fu
    induction fu with
    | zero => intro t r hfu; exact absurd hfu (Nat.not_lt_zero _)
    | succ fu ih4 =>
      intro t r hfu4 hti er
      intro ls hl
      refine lv_iload_n hx hb dX3_ended_4 rfl (lv_at hl 0 rfl) ?_
      refine lv_aload_n hx hb dX3_ended_5 rfl (lv_at hl 2 rfl) ?_
      refine va_get (D := D) (ci := 3) (v := .int (nI nt)) (C := RX3) (T := TX3) (N := 9) hx hb hts hiX3 hown hK.1 hP 0 rfl rfl 2 (by decide) (hts (.fieldLink RX3 29 "SledgeRaceModel" "teams" "I") (by decide +kernel)) (fun _ h9 => h9) (congrArg (fun z => some (Value.int z)) ht) dX3_ended_6 ?_
      refine sp_ge (by omega) (by omega) (tgt := 37) hx hb dX3_ended_9 (by decide) (fun c9 => ?_) (fun c9 => ?_)
      · skip
        refine lv_iload_n hx hb dX3_ended_37 rfl (lv_at hl 1 rfl) ?_
        refine sp_top (show nI r = nI (mEnded tv nt) from by rw [er, show t = nt from by omega]; rfl) ?_
        subst hQ
        exact W.iret hx hb hr (fun t ht _ => ⟨rfl, ht⟩) (fun _ h => nomatch h) dX3_ended_38
      · skip
        refine lv_iload_n hx hb dX3_ended_12 rfl (lv_at hl 1 rfl) ?_
        refine lv_aload_n hx hb dX3_ended_13 rfl (lv_at hl 2 rfl) ?_
        refine lv_iload_n hx hb dX3_ended_14 rfl (lv_at hl 0 rfl) ?_
        refine lv_bipush (v := 13) hx hb dX3_ended_15 (by decide) ?_
        refine sp_rV (rest := [.int (nI r)]) (As := [.int (nI t), .int (nI 13)]) ⟨hx, hb, hml, hown, hts⟩ (mX3_get l D cI cT mo g0 t0 z0 MF tv t 13 (((tv t).1) 13) (by omega) (by omega) (rfl)) (cwV 2 hts gX3_ended_X3_get rfl rfl rfl (by decide +kernel) ⟨Nat.le_of_ble_eq_true rfl, Nat.le_of_ble_eq_true rfl⟩) hK (sp_pick hP [0, 1] rfl) (ci := 3) rfl rfl rfl rfl hl.1 rfl (Nat.le_of_ble_eq_true rfl) dX3_ended_17 ⟨Nat.le_of_ble_eq_true rfl, Nat.le_of_ble_eq_true rfl⟩ ?_
        refine lv_iconst (v := (-1)) hx hb dX3_ended_20 (by decide) ?_
        refine lv_icmp_eq (tgt := 28) hx hb dX3_ended_21 (by decide) (fun c21 => ?_) (fun c21 => ?_)
        · skip
          refine lv_iconst (v := nI 0) hx hb dX3_ended_28 (by decide) ?_
          refine lv_iadd hx hb dX3_ended_29 ?_
          refine sp_top (nI_add r 0 : (nI r) + (nI 0) = nI (r + 0)) ?_
          refine lv_istore_n (lv' := [(1, .int (nI (r + 0))), (2, .int (nI t)), (0, .ref mo)]) hx hb dX3_ended_30 rfl hl (by decide) rfl (fun ls hl => ?_)
          refine lv_iinc (v := nI (t + 1)) (lv' := [(2, .int (nI (t + 1))), (1, .int (nI (r + 0))), (0, .ref mo)]) hx hb dX3_ended_31 hl (k := 1) rfl ((nI_1 t)) (by decide) rfl (fun ls hl => ?_)
          refine lv_goto (tgt := 4) hx hb dX3_ended_34 (by decide) ?_
          exact ih4 (t + 1) (r + 0) (by omega) (by omega) (by rw [cnt, ← er]; simp [c21]) ls (lv_sub hl [0, 1, 2] rfl)
        · skip
          refine lv_iconst (v := nI 1) hx hb dX3_ended_24 (by decide) ?_
          refine lv_goto (tgt := 29) hx hb dX3_ended_25 (by decide) ?_
          refine lv_iadd hx hb dX3_ended_29 ?_
          refine sp_top (nI_add r 1 : (nI r) + (nI 1) = nI (r + 1)) ?_
          refine lv_istore_n (lv' := [(1, .int (nI (r + 1))), (2, .int (nI t)), (0, .ref mo)]) hx hb dX3_ended_30 rfl hl (by decide) rfl (fun ls hl => ?_)
          refine lv_iinc (v := nI (t + 1)) (lv' := [(2, .int (nI (t + 1))), (1, .int (nI (r + 1))), (0, .ref mo)]) hx hb dX3_ended_31 hl (k := 1) rfl ((nI_1 t)) (by decide) rfl (fun ls hl => ?_)
          refine lv_goto (tgt := 4) hx hb dX3_ended_34 (by decide) ?_
          exact ih4 (t + 1) (r + 1) (by omega) (by omega) (by rw [cnt, ← er]; simp [c21]) ls (lv_sub hl [0, 1, 2] rfl)
  exact loop4 _ 0 0 (Nat.lt_succ_self _) (Nat.zero_le _) (rfl) ls (lv_sub hl [0, 1, 2] rfl)

abbrev rmX3_isAhead : Room := { frames := 1, cells := 0, slots := 0, locals := 22 }
set_option maxHeartbeats 4000000 in
set_option maxRecDepth 100000 in
/-- is a team ahead of another one -/
theorem mX3_isAhead (l : Launch) (D : va_G) (cI cT : ClassId) (mo g0 t0 z0 : Nat) (MF : Nat → Int32) (tv : Nat → TV) (a b : Nat) (ha6 : a < 6) (hb6 : b < 6) : MetR l D cI cT yX3_isAhead wsX3_isAhead rmX3_isAhead [.ref mo, .int (nI a), .int (nI b)] [(mo, oM MF g0 t0 z0), (t0, aI cI 174 (tab tv))] (bI (mAhead (tv a).1 (tv b).1 a b)) := by
  refine Met.ofW (cc := cX3_isAhead) (maxL := 5) (ret := (some .boolean)) (by decide) rfl ?_
  intro p e s m args below meth c s₁ B hml hv
  obtain ⟨hargs, hP, hK⟩ := hv
  have hx := B.exec
  have hb := B.bytes
  have hr := B.returns
  have hts := atoms_spec (ws := wsX3_isAhead) B.pre
  have hown : s.vm.findClass RX3 = some m.cls := findClass_of_methodNamed B.named
  have hlocks := B.notSynchronized
  have hiX3 : ∀ w ∈ u_ws RX3 TX3 9, w ∈ wsX3_isAhead := by decide +kernel
  have he : entryFrame m args 5 = F0 m 0 ((lg_sl [.ref mo, .int (nI a), .int (nI b)] ++ List.replicate (5 - (lg_sl [.ref mo, .int (nI a), .int (nI b)]).length) Slot.unset).toArray) [] := by rw [hargs]; exact lg_entry_eq m _ _
  rw [he]
  change W p l e rmX3_isAhead s m args below meth c s.heap [] 0 0 (MQ below (QcRead (bI (mAhead (tv a).1 (tv b).1 a b))) args s 0 0 (fun _ => False)) _
  obtain ⟨Q, hQ⟩ : ∃ Q, Q = MQ below (QcRead (bI (mAhead (tv a).1 (tv b).1 a b))) args s 0 0 (fun _ => False) := ⟨_, rfl⟩
  rw [← hQ]
  have hl := lv_entry [.ref mo, .int (nI a), .int (nI b)] (n := 5) (Nat.le_of_ble_eq_true rfl)
  generalize (lg_sl [.ref mo, .int (nI a), .int (nI b)] ++ List.replicate (5 - (lg_sl [.ref mo, .int (nI a), .int (nI b)]).length) Slot.unset).toArray = ls at hl ⊢
  have hl : lv_has ls 5 [(0, .ref mo), (1, .int (nI a)), (2, .int (nI b))] := hl
  refine lv_aload_n hx hb dX3_isAhead_0 rfl (lv_at hl 0 rfl) ?_
  refine lv_iload_n hx hb dX3_isAhead_1 rfl (lv_at hl 1 rfl) ?_
  refine lv_bipush (v := 13) hx hb dX3_isAhead_2 (by decide) ?_
  refine sp_rV (rest := []) (As := [.int (nI a), .int (nI 13)]) ⟨hx, hb, hml, hown, hts⟩ (mX3_get l D cI cT mo g0 t0 z0 MF tv a 13 (((tv a).1) 13) (by omega) (by omega) (rfl)) (cwV 2 hts gX3_isAhead_X3_get rfl rfl rfl (by decide +kernel) ⟨Nat.le_of_ble_eq_true rfl, Nat.le_of_ble_eq_true rfl⟩) hK (sp_pick hP [0, 1] rfl) (ci := 3) rfl rfl rfl rfl hl.1 rfl (Nat.le_of_ble_eq_true rfl) dX3_isAhead_4 ⟨Nat.le_of_ble_eq_true rfl, Nat.le_of_ble_eq_true rfl⟩ ?_
  refine lv_istore_n (lv' := [(3, .int (((tv a).1) 13)), (0, .ref mo), (1, .int (nI a)), (2, .int (nI b))]) hx hb dX3_isAhead_7 rfl hl (by decide) rfl (fun ls hl => ?_)
  refine lv_aload_n hx hb dX3_isAhead_8 rfl (lv_at hl 1 rfl) ?_
  refine lv_iload_n hx hb dX3_isAhead_9 rfl (lv_at hl 3 rfl) ?_
  refine lv_bipush (v := 13) hx hb dX3_isAhead_10 (by decide) ?_
  refine sp_rV (rest := []) (As := [.int (nI b), .int (nI 13)]) ⟨hx, hb, hml, hown, hts⟩ (mX3_get l D cI cT mo g0 t0 z0 MF tv b 13 (((tv b).1) 13) (by omega) (by omega) (rfl)) (cwV 2 hts gX3_isAhead_X3_get rfl rfl rfl (by decide +kernel) ⟨Nat.le_of_ble_eq_true rfl, Nat.le_of_ble_eq_true rfl⟩) hK (sp_pick hP [0, 1] rfl) (ci := 3) rfl rfl rfl rfl hl.1 rfl (Nat.le_of_ble_eq_true rfl) dX3_isAhead_12 ⟨Nat.le_of_ble_eq_true rfl, Nat.le_of_ble_eq_true rfl⟩ ?_
  refine lv_istore (lv' := [(4, .int (((tv b).1) 13)), (3, .int (((tv a).1) 13)), (0, .ref mo), (1, .int (nI a)), (2, .int (nI b))]) hx hb dX3_isAhead_15 hl (by decide) rfl (fun ls hl => ?_)
  refine lv_iload_n hx hb dX3_isAhead_17 rfl (lv_at hl 1 rfl) ?_
  refine lv_iload hx hb dX3_isAhead_18 (lv_at hl 0 rfl) ?_
  refine lv_icmp_eq (tgt := 46) hx hb dX3_isAhead_20 (by decide) (fun c20 => ?_) (fun c20 => ?_)
  · skip
    refine lv_iload_n hx hb dX3_isAhead_46 rfl (lv_at hl 1 rfl) ?_
    refine lv_iconst (v := (-1)) hx hb dX3_isAhead_47 (by decide) ?_
    refine lv_icmp_ne (tgt := 91) hx hb dX3_isAhead_48 (by decide) (fun c48 => ?_) (fun c48 => ?_)
    · skip
      refine lv_iload_n hx hb dX3_isAhead_91 rfl (lv_at hl 3 rfl) ?_
      refine lv_iload_n hx hb dX3_isAhead_92 rfl (lv_at hl 4 rfl) ?_
      refine sp_ge (by omega) (by omega) (tgt := 100) hx hb dX3_isAhead_93 (by decide) (fun c93 => ?_) (fun c93 => ?_)
      · skip
        refine lv_iconst (v := 0) hx hb dX3_isAhead_100 (by decide) ?_
        refine sp_top (show 0 = bI (mAhead (tv a).1 (tv b).1 a b) from by unfold mAhead; rw [if_neg (not_not_intro c20), if_neg (fun q => c48 q.1), decide_eq_false (Nat.not_lt.mpr c93)]; rfl) ?_
        subst hQ
        exact W.zret hx hb hr (bI_nar _) (fun t ht _ => ⟨rfl, ht⟩) (fun _ h => nomatch h) dX3_isAhead_101
      · skip
        refine lv_iconst (v := 1) hx hb dX3_isAhead_96 (by decide) ?_
        refine lv_goto (tgt := 101) hx hb dX3_isAhead_97 (by decide) ?_
        refine sp_top (show 1 = bI (mAhead (tv a).1 (tv b).1 a b) from by unfold mAhead; rw [if_neg (not_not_intro c20), if_neg (fun q => c48 q.1), decide_eq_true c93]; rfl) ?_
        subst hQ
        exact W.zret hx hb hr (bI_nar _) (fun t ht _ => ⟨rfl, ht⟩) (fun _ h => nomatch h) dX3_isAhead_101
    · skip
      refine lv_aload_n hx hb dX3_isAhead_51 rfl (lv_at hl 2 rfl) ?_
      refine lv_iload_n hx hb dX3_isAhead_52 rfl (lv_at hl 3 rfl) ?_
      refine lv_bipush (v := 9) hx hb dX3_isAhead_53 (by decide) ?_
      refine sp_rV (rest := []) (As := [.int (nI a), .int (nI 9)]) ⟨hx, hb, hml, hown, hts⟩ (mX3_get l D cI cT mo g0 t0 z0 MF tv a 9 (((tv a).1) 9) (by omega) (by omega) (rfl)) (cwV 2 hts gX3_isAhead_X3_get rfl rfl rfl (by decide +kernel) ⟨Nat.le_of_ble_eq_true rfl, Nat.le_of_ble_eq_true rfl⟩) hK (sp_pick hP [0, 1] rfl) (ci := 3) rfl rfl rfl rfl hl.1 rfl (Nat.le_of_ble_eq_true rfl) dX3_isAhead_55 ⟨Nat.le_of_ble_eq_true rfl, Nat.le_of_ble_eq_true rfl⟩ ?_
      refine lv_aload_n hx hb dX3_isAhead_58 rfl (lv_at hl 2 rfl) ?_
      refine lv_iload_n hx hb dX3_isAhead_59 rfl (lv_at hl 4 rfl) ?_
      refine lv_bipush (v := 9) hx hb dX3_isAhead_60 (by decide) ?_
      refine sp_rV (rest := [.int (((tv a).1) 9)]) (As := [.int (nI b), .int (nI 9)]) ⟨hx, hb, hml, hown, hts⟩ (mX3_get l D cI cT mo g0 t0 z0 MF tv b 9 (((tv b).1) 9) (by omega) (by omega) (rfl)) (cwV 2 hts gX3_isAhead_X3_get rfl rfl rfl (by decide +kernel) ⟨Nat.le_of_ble_eq_true rfl, Nat.le_of_ble_eq_true rfl⟩) hK (sp_pick hP [0, 1] rfl) (ci := 3) rfl rfl rfl rfl hl.1 rfl (Nat.le_of_ble_eq_true rfl) dX3_isAhead_62 ⟨Nat.le_of_ble_eq_true rfl, Nat.le_of_ble_eq_true rfl⟩ ?_
      refine lv_icmp_eq (tgt := 91) hx hb dX3_isAhead_65 (by decide) (fun c65 => ?_) (fun c65 => ?_)
      · skip
        refine lv_iload_n hx hb dX3_isAhead_91 rfl (lv_at hl 3 rfl) ?_
        refine lv_iload_n hx hb dX3_isAhead_92 rfl (lv_at hl 4 rfl) ?_
        refine sp_ge (by omega) (by omega) (tgt := 100) hx hb dX3_isAhead_93 (by decide) (fun c93 => ?_) (fun c93 => ?_)
        · skip
          refine lv_iconst (v := 0) hx hb dX3_isAhead_100 (by decide) ?_
          refine sp_top (show 0 = bI (mAhead (tv a).1 (tv b).1 a b) from by unfold mAhead; rw [if_neg (not_not_intro c20), if_neg (fun q => q.2 c65), decide_eq_false (Nat.not_lt.mpr c93)]; rfl) ?_
          subst hQ
          exact W.zret hx hb hr (bI_nar _) (fun t ht _ => ⟨rfl, ht⟩) (fun _ h => nomatch h) dX3_isAhead_101
        · skip
          refine lv_iconst (v := 1) hx hb dX3_isAhead_96 (by decide) ?_
          refine lv_goto (tgt := 101) hx hb dX3_isAhead_97 (by decide) ?_
          refine sp_top (show 1 = bI (mAhead (tv a).1 (tv b).1 a b) from by unfold mAhead; rw [if_neg (not_not_intro c20), if_neg (fun q => q.2 c65), decide_eq_true c93]; rfl) ?_
          subst hQ
          exact W.zret hx hb hr (bI_nar _) (fun t ht _ => ⟨rfl, ht⟩) (fun _ h => nomatch h) dX3_isAhead_101
      · skip
        refine lv_aload_n hx hb dX3_isAhead_68 rfl (lv_at hl 2 rfl) ?_
        refine lv_iload_n hx hb dX3_isAhead_69 rfl (lv_at hl 3 rfl) ?_
        refine lv_bipush (v := 9) hx hb dX3_isAhead_70 (by decide) ?_
        refine sp_rV (rest := []) (As := [.int (nI a), .int (nI 9)]) ⟨hx, hb, hml, hown, hts⟩ (mX3_get l D cI cT mo g0 t0 z0 MF tv a 9 (((tv a).1) 9) (by omega) (by omega) (rfl)) (cwV 2 hts gX3_isAhead_X3_get rfl rfl rfl (by decide +kernel) ⟨Nat.le_of_ble_eq_true rfl, Nat.le_of_ble_eq_true rfl⟩) hK (sp_pick hP [0, 1] rfl) (ci := 3) rfl rfl rfl rfl hl.1 rfl (Nat.le_of_ble_eq_true rfl) dX3_isAhead_72 ⟨Nat.le_of_ble_eq_true rfl, Nat.le_of_ble_eq_true rfl⟩ ?_
        refine lv_aload_n hx hb dX3_isAhead_75 rfl (lv_at hl 2 rfl) ?_
        refine lv_iload_n hx hb dX3_isAhead_76 rfl (lv_at hl 4 rfl) ?_
        refine lv_bipush (v := 9) hx hb dX3_isAhead_77 (by decide) ?_
        refine sp_rV (rest := [.int (((tv a).1) 9)]) (As := [.int (nI b), .int (nI 9)]) ⟨hx, hb, hml, hown, hts⟩ (mX3_get l D cI cT mo g0 t0 z0 MF tv b 9 (((tv b).1) 9) (by omega) (by omega) (rfl)) (cwV 2 hts gX3_isAhead_X3_get rfl rfl rfl (by decide +kernel) ⟨Nat.le_of_ble_eq_true rfl, Nat.le_of_ble_eq_true rfl⟩) hK (sp_pick hP [0, 1] rfl) (ci := 3) rfl rfl rfl rfl hl.1 rfl (Nat.le_of_ble_eq_true rfl) dX3_isAhead_79 ⟨Nat.le_of_ble_eq_true rfl, Nat.le_of_ble_eq_true rfl⟩ ?_
        refine lx_icmp_le (tgt := 89) hx hb dX3_isAhead_82 (by decide) (fun c82 => ?_) (fun c82 => ?_)
        · skip
          refine lv_iconst (v := 0) hx hb dX3_isAhead_89 (by decide) ?_
          refine sp_top (show 0 = bI (mAhead (tv a).1 (tv b).1 a b) from by unfold mAhead; rw [if_neg (not_not_intro c20), if_pos ⟨c48, c65⟩, decide_eq_false c82]; rfl) ?_
          subst hQ
          exact W.zret hx hb hr (bI_nar _) (fun t ht _ => ⟨rfl, ht⟩) (fun _ h => nomatch h) dX3_isAhead_90
        · skip
          refine lv_iconst (v := 1) hx hb dX3_isAhead_85 (by decide) ?_
          refine lv_goto (tgt := 90) hx hb dX3_isAhead_86 (by decide) ?_
          refine sp_top (show 1 = bI (mAhead (tv a).1 (tv b).1 a b) from by unfold mAhead; rw [if_neg (not_not_intro c20), if_pos ⟨c48, c65⟩, decide_eq_true c82]; rfl) ?_
          subst hQ
          exact W.zret hx hb hr (bI_nar _) (fun t ht _ => ⟨rfl, ht⟩) (fun _ h => nomatch h) dX3_isAhead_90
  · skip
    refine lv_iload_n hx hb dX3_isAhead_23 rfl (lv_at hl 1 rfl) ?_
    refine lv_iconst (v := (-1)) hx hb dX3_isAhead_24 (by decide) ?_
    refine lv_icmp_eq (tgt := 44) hx hb dX3_isAhead_25 (by decide) (fun c25 => ?_) (fun c25 => ?_)
    · skip
      refine lv_iconst (v := 0) hx hb dX3_isAhead_44 (by decide) ?_
      refine sp_top (show 0 = bI (mAhead (tv a).1 (tv b).1 a b) from by unfold mAhead; rw [if_pos c20, decide_eq_false (fun q => q.1 c25)]; rfl) ?_
      subst hQ
      exact W.zret hx hb hr (bI_nar _) (fun t ht _ => ⟨rfl, ht⟩) (fun _ h => nomatch h) dX3_isAhead_45
    · skip
      refine lv_iload hx hb dX3_isAhead_28 (lv_at hl 0 rfl) ?_
      refine lv_iconst (v := (-1)) hx hb dX3_isAhead_30 (by decide) ?_
      refine lv_icmp_eq (tgt := 40) hx hb dX3_isAhead_31 (by decide) (fun c31 => ?_) (fun c31 => ?_)
      · skip
        refine lv_iconst (v := 1) hx hb dX3_isAhead_40 (by decide) ?_
        refine lv_goto (tgt := 45) hx hb dX3_isAhead_41 (by decide) ?_
        refine sp_top (show 1 = bI (mAhead (tv a).1 (tv b).1 a b) from by unfold mAhead; rw [if_pos c20, decide_eq_true ⟨c25, Or.inl c31⟩]; rfl) ?_
        subst hQ
        exact W.zret hx hb hr (bI_nar _) (fun t ht _ => ⟨rfl, ht⟩) (fun _ h => nomatch h) dX3_isAhead_45
      · skip
        refine lv_iload_n hx hb dX3_isAhead_34 rfl (lv_at hl 1 rfl) ?_
        refine lv_iload hx hb dX3_isAhead_35 (lv_at hl 0 rfl) ?_
        refine lx_icmp_ge (tgt := 44) hx hb dX3_isAhead_37 (by decide) (fun c37 => ?_) (fun c37 => ?_)
        · skip
          refine lv_iconst (v := 0) hx hb dX3_isAhead_44 (by decide) ?_
          refine sp_top (show 0 = bI (mAhead (tv a).1 (tv b).1 a b) from by unfold mAhead; rw [if_pos c20, decide_eq_false (fun q => q.2.elim c31 c37)]; rfl) ?_
          subst hQ
          exact W.zret hx hb hr (bI_nar _) (fun t ht _ => ⟨rfl, ht⟩) (fun _ h => nomatch h) dX3_isAhead_45
        · skip
          refine lv_iconst (v := 1) hx hb dX3_isAhead_40 (by decide) ?_
          refine lv_goto (tgt := 45) hx hb dX3_isAhead_41 (by decide) ?_
          refine sp_top (show 1 = bI (mAhead (tv a).1 (tv b).1 a b) from by unfold mAhead; rw [if_pos c20, decide_eq_true ⟨c25, Or.inr c37⟩]; rfl) ?_
          subst hQ
          exact W.zret hx hb hr (bI_nar _) (fun t ht _ => ⟨rfl, ht⟩) (fun _ h => nomatch h) dX3_isAhead_45

abbrev rmX3_rankOf : Room := { frames := 2, cells := 0, slots := 0, locals := 46 }
set_option maxHeartbeats 4000000 in
set_option maxRecDepth 100000 in
/-- the rank of a team -/
theorem mX3_rankOf (l : Launch) (D : va_G) (cI cT : ClassId) (mo g0 t0 z0 : Nat) (MF : Nat → Int32) (tv : Nat → TV) (t : Nat) (ht6 : t < 6) (nt : Nat) (hnt : nt ≤ 6) (ht : MF 2 = nI nt) : MetR l D cI cT yX3_rankOf wsX3_rankOf rmX3_rankOf [.ref mo, .int (nI t)] [(mo, oM MF g0 t0 z0), (t0, aI cI 174 (tab tv))] (nI (mRank tv nt t)) := by
  refine Met.ofW (cc := cX3_rankOf) (maxL := 4) (ret := (some .int)) (by decide) rfl ?_
  intro p e s m args below meth c s₁ B hml hv
  obtain ⟨hargs, hP, hK⟩ := hv
  have hx := B.exec
  have hb := B.bytes
  have hr := B.returns
  have hts := atoms_spec (ws := wsX3_rankOf) B.pre
  have hown : s.vm.findClass RX3 = some m.cls := findClass_of_methodNamed B.named
  have hlocks := B.notSynchronized
  have hiX3 : ∀ w ∈ u_ws RX3 TX3 9, w ∈ wsX3_rankOf := by decide +kernel
  have he : entryFrame m args 4 = F0 m 0 ((lg_sl [.ref mo, .int (nI t)] ++ List.replicate (4 - (lg_sl [.ref mo, .int (nI t)]).length) Slot.unset).toArray) [] := by rw [hargs]; exact lg_entry_eq m _ _
  rw [he]
  change W p l e rmX3_rankOf s m args below meth c s.heap [] 0 0 (MQ below (QcRead (nI (mRank tv nt t))) args s 0 0 (fun _ => False)) _
  obtain ⟨Q, hQ⟩ : ∃ Q, Q = MQ below (QcRead (nI (mRank tv nt t))) args s 0 0 (fun _ => False) := ⟨_, rfl⟩
  rw [← hQ]
  have hl := lv_entry [.ref mo, .int (nI t)] (n := 4) (Nat.le_of_ble_eq_true rfl)
  generalize (lg_sl [.ref mo, .int (nI t)] ++ List.replicate (4 - (lg_sl [.ref mo, .int (nI t)]).length) Slot.unset).toArray = ls at hl ⊢
  have hl : lv_has ls 4 [(0, .ref mo), (1, .int (nI t))] := hl
  refine lv_iconst (v := nI 0) hx hb dX3_rankOf_0 (by decide) ?_
  refine lv_istore_n (lv' := [(2, .int (nI 0)), (0, .ref mo), (1, .int (nI t))]) hx hb dX3_rankOf_1 rfl hl (by decide) rfl (fun ls hl => ?_)
  refine lv_iconst (v := nI 0) hx hb dX3_rankOf_2 (by decide) ?_
  refine lv_istore_n (lv' := [(3, .int (nI 0)), (2, .int (nI 0)), (0, .ref mo), (1, .int (nI t))]) hx hb dX3_rankOf_3 rfl hl (by decide) rfl (fun ls hl => ?_)
  have loop4 : ∀ (fu : Nat) (o : Nat) (r : Nat), (nt - o) < fu → (o ≤ nt) → (r = cnt (fun o => decide (¬ o = t) && mAhead (tv o).1 (tv t).1 o t) o) → ∀ (ls : Array Slot), lv_has ls 4 [(3, .int (nI o)), (2, .int (nI r)), (0, .ref mo), (1, .int (nI t))] → W p l e rmX3_rankOf s m args below meth c s.heap [] 0 0 Q (F0 m 4 ls []) := by
    intro fu
    induction fu with
    | zero => intro o r hfu; exact absurd hfu (Nat.not_lt_zero _)
    | succ fu ih4 =>
      intro o r hfu4 hoi er
      intro ls hl
      refine lv_iload_n hx hb dX3_rankOf_4 rfl (lv_at hl 0 rfl) ?_
      refine lv_aload_n hx hb dX3_rankOf_5 rfl (lv_at hl 2 rfl) ?_
      refine va_get (D := D) (ci := 3) (v := .int (nI nt)) (C := RX3) (T := TX3) (N := 9) hx hb hts hiX3 hown hK.1 hP 0 rfl rfl 2 (by decide) (hts (.fieldLink RX3 29 "SledgeRaceModel" "teams" "I") (by decide +kernel)) (fun _ h9 => h9) (congrArg (fun z => some (Value.int z)) ht) dX3_rankOf_6 ?_
      refine sp_ge (by omega) (by omega) (tgt := 40) hx hb dX3_rankOf_9 (by decide) (fun c9 => ?_) (fun c9 => ?_)
      · skip
        refine lv_iload_n hx hb dX3_rankOf_40 rfl (lv_at hl 1 rfl) ?_
        refine sp_top (show nI r = nI (mRank tv nt t) from by rw [er, show o = nt from by omega]; rfl) ?_
        subst hQ
        exact W.iret hx hb hr (fun t ht _ => ⟨rfl, ht⟩) (fun _ h => nomatch h) dX3_rankOf_41
      · skip
        refine lv_iload_n hx hb dX3_rankOf_12 rfl (lv_at hl 1 rfl) ?_
        refine lv_iload_n hx hb dX3_rankOf_13 rfl (lv_at hl 0 rfl) ?_
        refine lv_iload_n hx hb dX3_rankOf_14 rfl (lv_at hl 3 rfl) ?_
        refine sp_eq (by omega) (by omega) (tgt := 31) hx hb dX3_rankOf_15 (by decide) (fun c15 => ?_) (fun c15 => ?_)
        · skip
          refine lv_iconst (v := nI 0) hx hb dX3_rankOf_31 (by decide) ?_
          refine lv_iadd hx hb dX3_rankOf_32 ?_
          refine sp_top (nI_add r 0 : (nI r) + (nI 0) = nI (r + 0)) ?_
          refine lv_istore_n (lv' := [(2, .int (nI (r + 0))), (3, .int (nI o)), (0, .ref mo), (1, .int (nI t))]) hx hb dX3_rankOf_33 rfl hl (by decide) rfl (fun ls hl => ?_)
          refine lv_iinc (v := nI (o + 1)) (lv' := [(3, .int (nI (o + 1))), (2, .int (nI (r + 0))), (0, .ref mo), (1, .int (nI t))]) hx hb dX3_rankOf_34 hl (k := 1) rfl ((nI_1 o)) (by decide) rfl (fun ls hl => ?_)
          refine lv_goto (tgt := 4) hx hb dX3_rankOf_37 (by decide) ?_
          exact ih4 (o + 1) (r + 0) (by omega) (by omega) (by rw [cnt, ← er]; simp [c15]) ls (lv_sub hl [0, 1, 2, 3] rfl)
        · skip
          refine lv_aload_n hx hb dX3_rankOf_18 rfl (lv_at hl 2 rfl) ?_
          refine lv_iload_n hx hb dX3_rankOf_19 rfl (lv_at hl 0 rfl) ?_
          refine lv_iload_n hx hb dX3_rankOf_20 rfl (lv_at hl 3 rfl) ?_
          refine sp_rV (rest := [.int (nI r)]) (As := [.int (nI o), .int (nI t)]) ⟨hx, hb, hml, hown, hts⟩ (mX3_isAhead l D cI cT mo g0 t0 z0 MF tv o t (by omega) (by omega)) (cwV 2 hts gX3_rankOf_X3_isAhead rfl rfl rfl (by decide +kernel) ⟨Nat.le_of_ble_eq_true rfl, Nat.le_of_ble_eq_true rfl⟩) hK (sp_pick hP [0, 1] rfl) (ci := 3) rfl rfl rfl rfl hl.1 rfl (Nat.le_of_ble_eq_true rfl) dX3_rankOf_21 ⟨Nat.le_of_ble_eq_true rfl, Nat.le_of_ble_eq_true rfl⟩ ?_
          refine sp_if_eq (tgt := 31) hx hb dX3_rankOf_24 (by decide) (fun c24 => ?_) (fun c24 => ?_)
          · skip
            refine lv_iconst (v := nI 0) hx hb dX3_rankOf_31 (by decide) ?_
            refine lv_iadd hx hb dX3_rankOf_32 ?_
            refine sp_top (nI_add r 0 : (nI r) + (nI 0) = nI (r + 0)) ?_
            refine lv_istore_n (lv' := [(2, .int (nI (r + 0))), (3, .int (nI o)), (0, .ref mo), (1, .int (nI t))]) hx hb dX3_rankOf_33 rfl hl (by decide) rfl (fun ls hl => ?_)
            refine lv_iinc (v := nI (o + 1)) (lv' := [(3, .int (nI (o + 1))), (2, .int (nI (r + 0))), (0, .ref mo), (1, .int (nI t))]) hx hb dX3_rankOf_34 hl (k := 1) rfl ((nI_1 o)) (by decide) rfl (fun ls hl => ?_)
            refine lv_goto (tgt := 4) hx hb dX3_rankOf_37 (by decide) ?_
            exact ih4 (o + 1) (r + 0) (by omega) (by omega) (by rw [cnt, ← er]; simp [c15, c24]) ls (lv_sub hl [0, 1, 2, 3] rfl)
          · skip
            refine lv_iconst (v := nI 1) hx hb dX3_rankOf_27 (by decide) ?_
            refine lv_goto (tgt := 32) hx hb dX3_rankOf_28 (by decide) ?_
            refine lv_iadd hx hb dX3_rankOf_32 ?_
            refine sp_top (nI_add r 1 : (nI r) + (nI 1) = nI (r + 1)) ?_
            refine lv_istore_n (lv' := [(2, .int (nI (r + 1))), (3, .int (nI o)), (0, .ref mo), (1, .int (nI t))]) hx hb dX3_rankOf_33 rfl hl (by decide) rfl (fun ls hl => ?_)
            refine lv_iinc (v := nI (o + 1)) (lv' := [(3, .int (nI (o + 1))), (2, .int (nI (r + 1))), (0, .ref mo), (1, .int (nI t))]) hx hb dX3_rankOf_34 hl (k := 1) rfl ((nI_1 o)) (by decide) rfl (fun ls hl => ?_)
            refine lv_goto (tgt := 4) hx hb dX3_rankOf_37 (by decide) ?_
            exact ih4 (o + 1) (r + 1) (by omega) (by omega) (by rw [cnt, ← er]; simp [c15, c24]) ls (lv_sub hl [0, 1, 2, 3] rfl)
  exact loop4 _ 0 0 (Nat.lt_succ_self _) (Nat.zero_le _) (rfl) ls (lv_sub hl [0, 1, 2, 3] rfl)

abbrev rmX3_teamAt : Room := { frames := 3, cells := 0, slots := 0, locals := 69 }
set_option maxHeartbeats 4000000 in
set_option maxRecDepth 100000 in
/-- the team that has a rank -/
theorem mX3_teamAt (l : Launch) (D : va_G) (cI cT : ClassId) (mo g0 t0 z0 : Nat) (MF : Nat → Int32) (tv : Nat → TV) (x : Int32) (nt : Nat) (hnt : nt ≤ 6) (ht : MF 2 = nI nt) (j : Nat) (hj : j < nt) (hjr : nI (mRank tv nt j) = x) : MetR l D cI cT yX3_teamAt wsX3_teamAt rmX3_teamAt [.ref mo, .int x] [(mo, oM MF g0 t0 z0), (t0, aI cI 174 (tab tv))] (nI (mAt tv nt x)) := by
  refine Met.ofW (cc := cX3_teamAt) (maxL := 3) (ret := (some .int)) (by decide) rfl ?_
  intro p e s m args below meth c s₁ B hml hv
  obtain ⟨hargs, hP, hK⟩ := hv
  have hx := B.exec
  have hb := B.bytes
  have hr := B.returns
  have hts := atoms_spec (ws := wsX3_teamAt) B.pre
  have hown : s.vm.findClass RX3 = some m.cls := findClass_of_methodNamed B.named
  have hlocks := B.notSynchronized
  have hiX3 : ∀ w ∈ u_ws RX3 TX3 9, w ∈ wsX3_teamAt := by decide +kernel
  have he : entryFrame m args 3 = F0 m 0 ((lg_sl [.ref mo, .int x] ++ List.replicate (3 - (lg_sl [.ref mo, .int x]).length) Slot.unset).toArray) [] := by rw [hargs]; exact lg_entry_eq m _ _
  rw [he]
  change W p l e rmX3_teamAt s m args below meth c s.heap [] 0 0 (MQ below (QcRead (nI (mAt tv nt x))) args s 0 0 (fun _ => False)) _
  obtain ⟨Q, hQ⟩ : ∃ Q, Q = MQ below (QcRead (nI (mAt tv nt x))) args s 0 0 (fun _ => False) := ⟨_, rfl⟩
  rw [← hQ]
  have hl := lv_entry [.ref mo, .int x] (n := 3) (Nat.le_of_ble_eq_true rfl)
  generalize (lg_sl [.ref mo, .int x] ++ List.replicate (3 - (lg_sl [.ref mo, .int x]).length) Slot.unset).toArray = ls at hl ⊢
  have hl : lv_has ls 3 [(0, .ref mo), (1, .int x)] := hl
  have hft : mAt tv nt x < nt := ft_lt hj (decide_eq_true hjr)
  have hfy : nI (mRank tv nt (mAt tv nt x)) = x := of_decide_eq_true (ft_yes (fun t => decide (nI (mRank tv nt t) = x)) nt hft)
  have hfn : ∀ k, k < mAt tv nt x → ¬ nI (mRank tv nt k) = x := fun k hk => of_decide_eq_false (ft_no (fun t => decide (nI (mRank tv nt t) = x)) nt k hk)
  refine lv_iconst (v := nI 0) hx hb dX3_teamAt_0 (by decide) ?_
  refine lv_istore_n (lv' := [(2, .int (nI 0)), (0, .ref mo), (1, .int x)]) hx hb dX3_teamAt_1 rfl hl (by decide) rfl (fun ls hl => ?_)
  have loop2 : ∀ (fu : Nat) (t : Nat), (mAt tv nt x - t) < fu → (t ≤ mAt tv nt x) → ∀ (ls : Array Slot), lv_has ls 3 [(2, .int (nI t)), (0, .ref mo), (1, .int x)] → W p l e rmX3_teamAt s m args below meth c s.heap [] 0 0 Q (F0 m 2 ls []) := by
    intro fu
    induction fu with
    | zero => intro t hfu; exact absurd hfu (Nat.not_lt_zero _)
    | succ fu ih2 =>
      intro t hfu2 hti
      intro ls hl
      refine lv_aload_n hx hb dX3_teamAt_2 rfl (lv_at hl 1 rfl) ?_
      refine lv_iload_n hx hb dX3_teamAt_3 rfl (lv_at hl 0 rfl) ?_
      refine sp_rV (rest := []) (As := [.int (nI t)]) ⟨hx, hb, hml, hown, hts⟩ (mX3_rankOf l D cI cT mo g0 t0 z0 MF tv t (by omega) nt hnt ht) (cwV 1 hts gX3_teamAt_X3_rankOf rfl rfl rfl (by decide +kernel) ⟨Nat.le_of_ble_eq_true rfl, Nat.le_of_ble_eq_true rfl⟩) hK (sp_pick hP [0, 1] rfl) (ci := 3) rfl rfl rfl rfl hl.1 rfl (Nat.le_of_ble_eq_true rfl) dX3_teamAt_4 ⟨Nat.le_of_ble_eq_true rfl, Nat.le_of_ble_eq_true rfl⟩ ?_
      refine lv_iload_n hx hb dX3_teamAt_7 rfl (lv_at hl 2 rfl) ?_
      refine lv_icmp_eq (tgt := 17) hx hb dX3_teamAt_8 (by decide) (fun c8 => ?_) (fun c8 => ?_)
      · skip
        refine lv_iload_n hx hb dX3_teamAt_17 rfl (lv_at hl 0 rfl) ?_
        refine sp_top (show nI t = nI (mAt tv nt x) from by rcases Nat.lt_or_ge t (mAt tv nt x) with q | q; exact absurd c8 (hfn t q); rw [show t = mAt tv nt x from by omega]) ?_
        subst hQ
        exact W.iret hx hb hr (fun t ht _ => ⟨rfl, ht⟩) (fun _ h => nomatch h) dX3_teamAt_18
      · skip
        refine lv_iinc (v := nI (t + 1)) (lv' := [(2, .int (nI (t + 1))), (0, .ref mo), (1, .int x)]) hx hb dX3_teamAt_11 hl (k := 0) rfl ((nI_1 t)) (by decide) rfl (fun ls hl => ?_)
        refine lv_goto (tgt := 2) hx hb dX3_teamAt_14 (by decide) ?_
        exact ih2 (t + 1) (by have : t < mAt tv nt x := (by rcases Nat.lt_or_ge t (mAt tv nt x) with q | q; exact q; exact absurd (by rw [show t = mAt tv nt x from by omega]; exact hfy) c8); omega) (by rcases Nat.lt_or_ge t (mAt tv nt x) with q | q; exact q; exact absurd (by rw [show t = mAt tv nt x from by omega]; exact hfy) c8) ls (lv_sub hl [0, 1, 2] rfl)
  exact loop2 _ 0 (Nat.lt_succ_self _) (Nat.zero_le _) ls (lv_sub hl [0, 1, 2] rfl)

abbrev rmX3_counted : Room := { frames := 2, cells := 0, slots := 0, locals := 44 }
set_option maxHeartbeats 4000000 in
set_option maxRecDepth 100000 in
/-- what count() tells -/
theorem mX3_counted (l : Launch) (D : va_G) (cI cT : ClassId) (mo g0 t0 z0 : Nat) (MF : Nat → Int32) (tv : Nat → TV) (w : Int32) (nt : Nat) (hnt : nt ≤ 6) (ht : MF 2 = nI nt) : MetR l D cI cT yX3_counted wsX3_counted rmX3_counted [.ref mo, .int w] [(mo, oM MF g0 t0 z0), (t0, aI cI 174 (tab tv))] (mCount MF tv nt w) := by
  refine Met.ofW (cc := cX3_counted) (maxL := 2) (ret := (some .int)) (by decide) rfl ?_
  intro p e s m args below meth c s₁ B hml hv
  obtain ⟨hargs, hP, hK⟩ := hv
  have hx := B.exec
  have hb := B.bytes
  have hr := B.returns
  have hts := atoms_spec (ws := wsX3_counted) B.pre
  have hown : s.vm.findClass RX3 = some m.cls := findClass_of_methodNamed B.named
  have hlocks := B.notSynchronized
  have hiX3 : ∀ w ∈ u_ws RX3 TX3 9, w ∈ wsX3_counted := by decide +kernel
  have he : entryFrame m args 2 = F0 m 0 ((lg_sl [.ref mo, .int w] ++ List.replicate (2 - (lg_sl [.ref mo, .int w]).length) Slot.unset).toArray) [] := by rw [hargs]; exact lg_entry_eq m _ _
  rw [he]
  change W p l e rmX3_counted s m args below meth c s.heap [] 0 0 (MQ below (QcRead (mCount MF tv nt w)) args s 0 0 (fun _ => False)) _
  obtain ⟨Q, hQ⟩ : ∃ Q, Q = MQ below (QcRead (mCount MF tv nt w)) args s 0 0 (fun _ => False) := ⟨_, rfl⟩
  rw [← hQ]
  have hl := lv_entry [.ref mo, .int w] (n := 2) (Nat.le_of_ble_eq_true rfl)
  generalize (lg_sl [.ref mo, .int w] ++ List.replicate (2 - (lg_sl [.ref mo, .int w]).length) Slot.unset).toArray = ls at hl ⊢
  have hl : lv_has ls 2 [(0, .ref mo), (1, .int w)] := hl
  refine lv_iload_n hx hb dX3_counted_0 rfl (lv_at hl 1 rfl) ?_
  by_cases sw0 : w = 0
  · subst sw0
    refine lv_tableIn (tgt := 36) hx hb dX3_counted_1 (by decide) (by decide) rfl (by decide) ?_
    refine lv_aload_n hx hb dX3_counted_36 rfl (lv_at hl 0 rfl) ?_
    refine va_get (D := D) (ci := 3) (v := .int (MF 1)) (C := RX3) (T := TX3) (N := 9) hx hb hts hiX3 hown hK.1 hP 0 rfl rfl 1 (by decide) (hts (.fieldLink RX3 40 "SledgeRaceModel" "tick" "I") (by decide +kernel)) (fun _ h9 => h9) rfl dX3_counted_37 ?_
    refine sp_top (show MF 1 = mCount MF tv nt 0 from rfl ) ?_
    subst hQ
    exact W.iret hx hb hr (fun t ht _ => ⟨rfl, ht⟩) (fun _ h => nomatch h) dX3_counted_40
  by_cases sw1 : w = 1
  · subst sw1
    refine lv_tableIn (tgt := 41) hx hb dX3_counted_1 (by decide) (by decide) rfl (by decide) ?_
    refine lv_aload_n hx hb dX3_counted_41 rfl (lv_at hl 0 rfl) ?_
    refine va_get (D := D) (ci := 3) (v := .int (MF 2)) (C := RX3) (T := TX3) (N := 9) hx hb hts hiX3 hown hK.1 hP 0 rfl rfl 2 (by decide) (hts (.fieldLink RX3 29 "SledgeRaceModel" "teams" "I") (by decide +kernel)) (fun _ h9 => h9) rfl dX3_counted_42 ?_
    refine sp_top (show MF 2 = mCount MF tv nt 1 from rfl ) ?_
    subst hQ
    exact W.iret hx hb hr (fun t ht _ => ⟨rfl, ht⟩) (fun _ h => nomatch h) dX3_counted_45
  by_cases sw2 : w = 2
  · subst sw2
    refine lv_tableIn (tgt := 46) hx hb dX3_counted_1 (by decide) (by decide) rfl (by decide) ?_
    refine lv_aload_n hx hb dX3_counted_46 rfl (lv_at hl 0 rfl) ?_
    refine va_get (D := D) (ci := 3) (v := .int (MF 3)) (C := RX3) (T := TX3) (N := 9) hx hb hts hiX3 hown hK.1 hP 0 rfl rfl 3 (by decide) (hts (.fieldLink RX3 9 "SledgeRaceModel" "length" "I") (by decide +kernel)) (fun _ h9 => h9) rfl dX3_counted_47 ?_
    refine sp_top (show MF 3 = mCount MF tv nt 2 from rfl ) ?_
    subst hQ
    exact W.iret hx hb hr (fun t ht _ => ⟨rfl, ht⟩) (fun _ h => nomatch h) dX3_counted_50
  by_cases sw3 : w = 3
  · subst sw3
    refine lv_tableIn (tgt := 51) hx hb dX3_counted_1 (by decide) (by decide) rfl (by decide) ?_
    refine lv_aload_n hx hb dX3_counted_51 rfl (lv_at hl 0 rfl) ?_
    refine va_get (D := D) (ci := 3) (v := .int (MF 5)) (C := RX3) (T := TX3) (N := 9) hx hb hts hiX3 hown hK.1 hP 0 rfl rfl 5 (by decide) (hts (.fieldLink RX3 13 "SledgeRaceModel" "stretches" "I") (by decide +kernel)) (fun _ h9 => h9) rfl dX3_counted_52 ?_
    refine sp_top (show MF 5 = mCount MF tv nt 3 from rfl ) ?_
    subst hQ
    exact W.iret hx hb hr (fun t ht _ => ⟨rfl, ht⟩) (fun _ h => nomatch h) dX3_counted_55
  by_cases sw4 : w = 4
  · subst sw4
    refine lv_tableIn (tgt := 56) hx hb dX3_counted_1 (by decide) (by decide) rfl (by decide) ?_
    refine lv_aload_n hx hb dX3_counted_56 rfl (lv_at hl 0 rfl) ?_
    refine sp_rV (rest := []) (As := []) ⟨hx, hb, hml, hown, hts⟩ (mX3_ended l D cI cT mo g0 t0 z0 MF tv nt hnt ht) (cwV 0 hts gX3_counted_X3_ended rfl rfl rfl (by decide +kernel) ⟨Nat.le_of_ble_eq_true rfl, Nat.le_of_ble_eq_true rfl⟩) hK (sp_pick hP [0, 1] rfl) (ci := 3) rfl rfl rfl rfl hl.1 rfl (Nat.le_of_ble_eq_true rfl) dX3_counted_57 ⟨Nat.le_of_ble_eq_true rfl, Nat.le_of_ble_eq_true rfl⟩ ?_
    refine sp_top (show nI (mEnded tv nt) = mCount MF tv nt 4 from rfl ) ?_
    subst hQ
    exact W.iret hx hb hr (fun t ht _ => ⟨rfl, ht⟩) (fun _ h => nomatch h) dX3_counted_60
  refine lv_tableOut (tgt := 61) hx hb dX3_counted_1 (sp_out4 sw0 sw1 sw2 sw3 sw4) (by decide) ?_
  refine lv_aload_n hx hb dX3_counted_61 rfl (lv_at hl 0 rfl) ?_
  refine va_get (D := D) (ci := 3) (v := .int (MF 4)) (C := RX3) (T := TX3) (N := 9) hx hb hts hiX3 hown hK.1 hP 0 rfl rfl 4 (by decide) (hts (.fieldLink RX3 95 "SledgeRaceModel" "broke" "I") (by decide +kernel)) (fun _ h9 => h9) rfl dX3_counted_62 ?_
  refine sp_top (show MF 4 = mCount MF tv nt w from by simp only [mCount, if_neg sw0, if_neg sw1, if_neg sw2, if_neg sw3, if_neg sw4]) ?_
  subst hQ
  exact W.iret hx hb hr (fun t ht _ => ⟨rfl, ht⟩) (fun _ h => nomatch h) dX3_counted_65

abbrev rmX3_teamTold : Room := { frames := 4, cells := 0, slots := 0, locals := 92 }
set_option maxHeartbeats 4000000 in
set_option maxRecDepth 100000 in
/-- what team() tells -/
theorem mX3_teamTold (l : Launch) (D : va_G) (cI cT : ClassId) (mo g0 t0 z0 : Nat) (MF : Nat → Int32) (tv : Nat → TV) (i : Nat) (hi6 : i < 6) (F P L G : Nat → Int32) (hT : tv i = (F, P, L, G)) (w : Int32) (n : Nat) (hn : n ≤ 8) (h2 : F 2 = nI n) : MetR l D cI cT yX3_teamTold wsX3_teamTold rmX3_teamTold [.ref mo, .int (nI i), .int w] [(mo, oM MF g0 t0 z0), (t0, aI cI 174 (tab tv))] (mTold F P L n w) := by
  refine Met.ofW (cc := cX3_teamTold) (maxL := 3) (ret := (some .int)) (by decide) rfl ?_
  intro p e s m args below meth c s₁ B hml hv
  obtain ⟨hargs, hP, hK⟩ := hv
  have hx := B.exec
  have hb := B.bytes
  have hr := B.returns
  have hts := atoms_spec (ws := wsX3_teamTold) B.pre
  have hown : s.vm.findClass RX3 = some m.cls := findClass_of_methodNamed B.named
  have hlocks := B.notSynchronized
  have hiX3 : ∀ w ∈ u_ws RX3 TX3 9, w ∈ wsX3_teamTold := by decide +kernel
  have he : entryFrame m args 3 = F0 m 0 ((lg_sl [.ref mo, .int (nI i), .int w] ++ List.replicate (3 - (lg_sl [.ref mo, .int (nI i), .int w]).length) Slot.unset).toArray) [] := by rw [hargs]; exact lg_entry_eq m _ _
  rw [he]
  change W p l e rmX3_teamTold s m args below meth c s.heap [] 0 0 (MQ below (QcRead (mTold F P L n w)) args s 0 0 (fun _ => False)) _
  obtain ⟨Q, hQ⟩ : ∃ Q, Q = MQ below (QcRead (mTold F P L n w)) args s 0 0 (fun _ => False) := ⟨_, rfl⟩
  rw [← hQ]
  have hl := lv_entry [.ref mo, .int (nI i), .int w] (n := 3) (Nat.le_of_ble_eq_true rfl)
  generalize (lg_sl [.ref mo, .int (nI i), .int w] ++ List.replicate (3 - (lg_sl [.ref mo, .int (nI i), .int w]).length) Slot.unset).toArray = ls at hl ⊢
  have hl : lv_has ls 3 [(0, .ref mo), (1, .int (nI i)), (2, .int w)] := hl
  refine lv_iload_n hx hb dX3_teamTold_0 rfl (lv_at hl 2 rfl) ?_
  by_cases sw0 : w = 0
  · subst sw0
    refine lv_tableIn (tgt := 64) hx hb dX3_teamTold_1 (by decide) (by decide) rfl (by decide) ?_
    refine lv_aload_n hx hb dX3_teamTold_64 rfl (lv_at hl 0 rfl) ?_
    refine lv_iload_n hx hb dX3_teamTold_65 rfl (lv_at hl 1 rfl) ?_
    refine lv_bipush (v := 9) hx hb dX3_teamTold_66 (by decide) ?_
    refine sp_rV (rest := []) (As := [.int (nI i), .int (nI 9)]) ⟨hx, hb, hml, hown, hts⟩ (mX3_get l D cI cT mo g0 t0 z0 MF tv i 9 (F 9) (by omega) (by omega) (by rw [hT]; rfl)) (cwV 2 hts gX3_teamTold_X3_get rfl rfl rfl (by decide +kernel) ⟨Nat.le_of_ble_eq_true rfl, Nat.le_of_ble_eq_true rfl⟩) hK (sp_pick hP [0, 1] rfl) (ci := 3) rfl rfl rfl rfl hl.1 rfl (Nat.le_of_ble_eq_true rfl) dX3_teamTold_68 ⟨Nat.le_of_ble_eq_true rfl, Nat.le_of_ble_eq_true rfl⟩ ?_
    refine sp_top (show F 9 = mTold F P L n 0 from rfl ) ?_
    subst hQ
    exact W.iret hx hb hr (fun t ht _ => ⟨rfl, ht⟩) (fun _ h => nomatch h) dX3_teamTold_71
  by_cases sw1 : w = 1
  · subst sw1
    refine lv_tableIn (tgt := 72) hx hb dX3_teamTold_1 (by decide) (by decide) rfl (by decide) ?_
    refine lv_aload_n hx hb dX3_teamTold_72 rfl (lv_at hl 0 rfl) ?_
    refine lv_iload_n hx hb dX3_teamTold_73 rfl (lv_at hl 1 rfl) ?_
    refine lv_bipush (v := 10) hx hb dX3_teamTold_74 (by decide) ?_
    refine sp_rV (rest := []) (As := [.int (nI i), .int (nI 10)]) ⟨hx, hb, hml, hown, hts⟩ (mX3_get l D cI cT mo g0 t0 z0 MF tv i 10 (F 10) (by omega) (by omega) (by rw [hT]; rfl)) (cwV 2 hts gX3_teamTold_X3_get rfl rfl rfl (by decide +kernel) ⟨Nat.le_of_ble_eq_true rfl, Nat.le_of_ble_eq_true rfl⟩) hK (sp_pick hP [0, 1] rfl) (ci := 3) rfl rfl rfl rfl hl.1 rfl (Nat.le_of_ble_eq_true rfl) dX3_teamTold_76 ⟨Nat.le_of_ble_eq_true rfl, Nat.le_of_ble_eq_true rfl⟩ ?_
    refine sp_top (show F 10 = mTold F P L n 1 from rfl ) ?_
    subst hQ
    exact W.iret hx hb hr (fun t ht _ => ⟨rfl, ht⟩) (fun _ h => nomatch h) dX3_teamTold_79
  by_cases sw2 : w = 2
  · subst sw2
    refine lv_tableIn (tgt := 80) hx hb dX3_teamTold_1 (by decide) (by decide) rfl (by decide) ?_
    refine lv_aload_n hx hb dX3_teamTold_80 rfl (lv_at hl 0 rfl) ?_
    refine lv_iload_n hx hb dX3_teamTold_81 rfl (lv_at hl 1 rfl) ?_
    refine lv_bipush (v := 11) hx hb dX3_teamTold_82 (by decide) ?_
    refine sp_rV (rest := []) (As := [.int (nI i), .int (nI 11)]) ⟨hx, hb, hml, hown, hts⟩ (mX3_get l D cI cT mo g0 t0 z0 MF tv i 11 (F 11) (by omega) (by omega) (by rw [hT]; rfl)) (cwV 2 hts gX3_teamTold_X3_get rfl rfl rfl (by decide +kernel) ⟨Nat.le_of_ble_eq_true rfl, Nat.le_of_ble_eq_true rfl⟩) hK (sp_pick hP [0, 1] rfl) (ci := 3) rfl rfl rfl rfl hl.1 rfl (Nat.le_of_ble_eq_true rfl) dX3_teamTold_84 ⟨Nat.le_of_ble_eq_true rfl, Nat.le_of_ble_eq_true rfl⟩ ?_
    refine sp_top (show F 11 = mTold F P L n 2 from rfl ) ?_
    subst hQ
    exact W.iret hx hb hr (fun t ht _ => ⟨rfl, ht⟩) (fun _ h => nomatch h) dX3_teamTold_87
  by_cases sw3 : w = 3
  · subst sw3
    refine lv_tableIn (tgt := 88) hx hb dX3_teamTold_1 (by decide) (by decide) rfl (by decide) ?_
    refine lv_aload_n hx hb dX3_teamTold_88 rfl (lv_at hl 0 rfl) ?_
    refine lv_iload_n hx hb dX3_teamTold_89 rfl (lv_at hl 1 rfl) ?_
    refine lv_bipush (v := 12) hx hb dX3_teamTold_90 (by decide) ?_
    refine sp_rV (rest := []) (As := [.int (nI i), .int (nI 12)]) ⟨hx, hb, hml, hown, hts⟩ (mX3_get l D cI cT mo g0 t0 z0 MF tv i 12 (F 12) (by omega) (by omega) (by rw [hT]; rfl)) (cwV 2 hts gX3_teamTold_X3_get rfl rfl rfl (by decide +kernel) ⟨Nat.le_of_ble_eq_true rfl, Nat.le_of_ble_eq_true rfl⟩) hK (sp_pick hP [0, 1] rfl) (ci := 3) rfl rfl rfl rfl hl.1 rfl (Nat.le_of_ble_eq_true rfl) dX3_teamTold_92 ⟨Nat.le_of_ble_eq_true rfl, Nat.le_of_ble_eq_true rfl⟩ ?_
    refine sp_top (show F 12 = mTold F P L n 3 from rfl ) ?_
    subst hQ
    exact W.iret hx hb hr (fun t ht _ => ⟨rfl, ht⟩) (fun _ h => nomatch h) dX3_teamTold_95
  by_cases sw4 : w = 4
  · subst sw4
    refine lv_tableIn (tgt := 128) hx hb dX3_teamTold_1 (by decide) (by decide) rfl (by decide) ?_
    refine lv_aload_n hx hb dX3_teamTold_128 rfl (lv_at hl 0 rfl) ?_
    refine lv_iload_n hx hb dX3_teamTold_129 rfl (lv_at hl 1 rfl) ?_
    refine lv_iload_n hx hb dX3_teamTold_130 rfl (lv_at hl 2 rfl) ?_
    refine lv_iconst (v := 4) hx hb dX3_teamTold_131 (by decide) ?_
    refine lv_isub hx hb dX3_teamTold_132 ?_
    refine sp_rV (rest := []) (As := [.int (nI i), .int (4 - 4)]) ⟨hx, hb, hml, hown, hts⟩ (mX3_many l D cI cT mo g0 t0 z0 MF tv i (by omega) F P L G (hT) (4 - 4) n hn h2) (cwV 2 hts gX3_teamTold_X3_many rfl rfl rfl (by decide +kernel) ⟨Nat.le_of_ble_eq_true rfl, Nat.le_of_ble_eq_true rfl⟩) hK (sp_pick hP [0, 1] rfl) (ci := 3) rfl rfl rfl rfl hl.1 rfl (Nat.le_of_ble_eq_true rfl) dX3_teamTold_133 ⟨Nat.le_of_ble_eq_true rfl, Nat.le_of_ble_eq_true rfl⟩ ?_
    refine sp_top (show nI (mMany F P L n (4 - 4)) = mTold F P L n 4 from rfl ) ?_
    subst hQ
    exact W.iret hx hb hr (fun t ht _ => ⟨rfl, ht⟩) (fun _ h => nomatch h) dX3_teamTold_136
  by_cases sw5 : w = 5
  · subst sw5
    refine lv_tableIn (tgt := 128) hx hb dX3_teamTold_1 (by decide) (by decide) rfl (by decide) ?_
    refine lv_aload_n hx hb dX3_teamTold_128 rfl (lv_at hl 0 rfl) ?_
    refine lv_iload_n hx hb dX3_teamTold_129 rfl (lv_at hl 1 rfl) ?_
    refine lv_iload_n hx hb dX3_teamTold_130 rfl (lv_at hl 2 rfl) ?_
    refine lv_iconst (v := 4) hx hb dX3_teamTold_131 (by decide) ?_
    refine lv_isub hx hb dX3_teamTold_132 ?_
    refine sp_rV (rest := []) (As := [.int (nI i), .int (5 - 4)]) ⟨hx, hb, hml, hown, hts⟩ (mX3_many l D cI cT mo g0 t0 z0 MF tv i (by omega) F P L G (hT) (5 - 4) n hn h2) (cwV 2 hts gX3_teamTold_X3_many rfl rfl rfl (by decide +kernel) ⟨Nat.le_of_ble_eq_true rfl, Nat.le_of_ble_eq_true rfl⟩) hK (sp_pick hP [0, 1] rfl) (ci := 3) rfl rfl rfl rfl hl.1 rfl (Nat.le_of_ble_eq_true rfl) dX3_teamTold_133 ⟨Nat.le_of_ble_eq_true rfl, Nat.le_of_ble_eq_true rfl⟩ ?_
    refine sp_top (show nI (mMany F P L n (5 - 4)) = mTold F P L n 5 from rfl ) ?_
    subst hQ
    exact W.iret hx hb hr (fun t ht _ => ⟨rfl, ht⟩) (fun _ h => nomatch h) dX3_teamTold_136
  by_cases sw6 : w = 6
  · subst sw6
    refine lv_tableIn (tgt := 128) hx hb dX3_teamTold_1 (by decide) (by decide) rfl (by decide) ?_
    refine lv_aload_n hx hb dX3_teamTold_128 rfl (lv_at hl 0 rfl) ?_
    refine lv_iload_n hx hb dX3_teamTold_129 rfl (lv_at hl 1 rfl) ?_
    refine lv_iload_n hx hb dX3_teamTold_130 rfl (lv_at hl 2 rfl) ?_
    refine lv_iconst (v := 4) hx hb dX3_teamTold_131 (by decide) ?_
    refine lv_isub hx hb dX3_teamTold_132 ?_
    refine sp_rV (rest := []) (As := [.int (nI i), .int (6 - 4)]) ⟨hx, hb, hml, hown, hts⟩ (mX3_many l D cI cT mo g0 t0 z0 MF tv i (by omega) F P L G (hT) (6 - 4) n hn h2) (cwV 2 hts gX3_teamTold_X3_many rfl rfl rfl (by decide +kernel) ⟨Nat.le_of_ble_eq_true rfl, Nat.le_of_ble_eq_true rfl⟩) hK (sp_pick hP [0, 1] rfl) (ci := 3) rfl rfl rfl rfl hl.1 rfl (Nat.le_of_ble_eq_true rfl) dX3_teamTold_133 ⟨Nat.le_of_ble_eq_true rfl, Nat.le_of_ble_eq_true rfl⟩ ?_
    refine sp_top (show nI (mMany F P L n (6 - 4)) = mTold F P L n 6 from rfl ) ?_
    subst hQ
    exact W.iret hx hb hr (fun t ht _ => ⟨rfl, ht⟩) (fun _ h => nomatch h) dX3_teamTold_136
  by_cases sw7 : w = 7
  · subst sw7
    refine lv_tableIn (tgt := 128) hx hb dX3_teamTold_1 (by decide) (by decide) rfl (by decide) ?_
    refine lv_aload_n hx hb dX3_teamTold_128 rfl (lv_at hl 0 rfl) ?_
    refine lv_iload_n hx hb dX3_teamTold_129 rfl (lv_at hl 1 rfl) ?_
    refine lv_iload_n hx hb dX3_teamTold_130 rfl (lv_at hl 2 rfl) ?_
    refine lv_iconst (v := 4) hx hb dX3_teamTold_131 (by decide) ?_
    refine lv_isub hx hb dX3_teamTold_132 ?_
    refine sp_rV (rest := []) (As := [.int (nI i), .int (7 - 4)]) ⟨hx, hb, hml, hown, hts⟩ (mX3_many l D cI cT mo g0 t0 z0 MF tv i (by omega) F P L G (hT) (7 - 4) n hn h2) (cwV 2 hts gX3_teamTold_X3_many rfl rfl rfl (by decide +kernel) ⟨Nat.le_of_ble_eq_true rfl, Nat.le_of_ble_eq_true rfl⟩) hK (sp_pick hP [0, 1] rfl) (ci := 3) rfl rfl rfl rfl hl.1 rfl (Nat.le_of_ble_eq_true rfl) dX3_teamTold_133 ⟨Nat.le_of_ble_eq_true rfl, Nat.le_of_ble_eq_true rfl⟩ ?_
    refine sp_top (show nI (mMany F P L n (7 - 4)) = mTold F P L n 7 from rfl ) ?_
    subst hQ
    exact W.iret hx hb hr (fun t ht _ => ⟨rfl, ht⟩) (fun _ h => nomatch h) dX3_teamTold_136
  by_cases sw8 : w = 8
  · subst sw8
    refine lv_tableIn (tgt := 96) hx hb dX3_teamTold_1 (by decide) (by decide) rfl (by decide) ?_
    refine lv_aload_n hx hb dX3_teamTold_96 rfl (lv_at hl 0 rfl) ?_
    refine lv_iload_n hx hb dX3_teamTold_97 rfl (lv_at hl 1 rfl) ?_
    refine lv_bipush (v := 13) hx hb dX3_teamTold_98 (by decide) ?_
    refine sp_rV (rest := []) (As := [.int (nI i), .int (nI 13)]) ⟨hx, hb, hml, hown, hts⟩ (mX3_get l D cI cT mo g0 t0 z0 MF tv i 13 (F 13) (by omega) (by omega) (by rw [hT]; rfl)) (cwV 2 hts gX3_teamTold_X3_get rfl rfl rfl (by decide +kernel) ⟨Nat.le_of_ble_eq_true rfl, Nat.le_of_ble_eq_true rfl⟩) hK (sp_pick hP [0, 1] rfl) (ci := 3) rfl rfl rfl rfl hl.1 rfl (Nat.le_of_ble_eq_true rfl) dX3_teamTold_100 ⟨Nat.le_of_ble_eq_true rfl, Nat.le_of_ble_eq_true rfl⟩ ?_
    refine sp_top (show F 13 = mTold F P L n 8 from rfl ) ?_
    subst hQ
    exact W.iret hx hb hr (fun t ht _ => ⟨rfl, ht⟩) (fun _ h => nomatch h) dX3_teamTold_103
  by_cases sw9 : w = 9
  · subst sw9
    refine lv_tableIn (tgt := 104) hx hb dX3_teamTold_1 (by decide) (by decide) rfl (by decide) ?_
    refine lv_aload_n hx hb dX3_teamTold_104 rfl (lv_at hl 0 rfl) ?_
    refine lv_iload_n hx hb dX3_teamTold_105 rfl (lv_at hl 1 rfl) ?_
    refine lv_bipush (v := 7) hx hb dX3_teamTold_106 (by decide) ?_
    refine sp_rV (rest := []) (As := [.int (nI i), .int (nI 7)]) ⟨hx, hb, hml, hown, hts⟩ (mX3_get l D cI cT mo g0 t0 z0 MF tv i 7 (F 7) (by omega) (by omega) (by rw [hT]; rfl)) (cwV 2 hts gX3_teamTold_X3_get rfl rfl rfl (by decide +kernel) ⟨Nat.le_of_ble_eq_true rfl, Nat.le_of_ble_eq_true rfl⟩) hK (sp_pick hP [0, 1] rfl) (ci := 3) rfl rfl rfl rfl hl.1 rfl (Nat.le_of_ble_eq_true rfl) dX3_teamTold_108 ⟨Nat.le_of_ble_eq_true rfl, Nat.le_of_ble_eq_true rfl⟩ ?_
    refine sp_top (show F 7 = mTold F P L n 9 from rfl ) ?_
    subst hQ
    exact W.iret hx hb hr (fun t ht _ => ⟨rfl, ht⟩) (fun _ h => nomatch h) dX3_teamTold_111
  by_cases sw10 : w = 10
  · subst sw10
    refine lv_tableIn (tgt := 112) hx hb dX3_teamTold_1 (by decide) (by decide) rfl (by decide) ?_
    refine lv_aload_n hx hb dX3_teamTold_112 rfl (lv_at hl 0 rfl) ?_
    refine lv_iload_n hx hb dX3_teamTold_113 rfl (lv_at hl 1 rfl) ?_
    refine lv_bipush (v := 8) hx hb dX3_teamTold_114 (by decide) ?_
    refine sp_rV (rest := []) (As := [.int (nI i), .int (nI 8)]) ⟨hx, hb, hml, hown, hts⟩ (mX3_get l D cI cT mo g0 t0 z0 MF tv i 8 (F 8) (by omega) (by omega) (by rw [hT]; rfl)) (cwV 2 hts gX3_teamTold_X3_get rfl rfl rfl (by decide +kernel) ⟨Nat.le_of_ble_eq_true rfl, Nat.le_of_ble_eq_true rfl⟩) hK (sp_pick hP [0, 1] rfl) (ci := 3) rfl rfl rfl rfl hl.1 rfl (Nat.le_of_ble_eq_true rfl) dX3_teamTold_116 ⟨Nat.le_of_ble_eq_true rfl, Nat.le_of_ble_eq_true rfl⟩ ?_
    refine sp_top (show F 8 = mTold F P L n 10 from rfl ) ?_
    subst hQ
    exact W.iret hx hb hr (fun t ht _ => ⟨rfl, ht⟩) (fun _ h => nomatch h) dX3_teamTold_119
  by_cases sw11 : w = 11
  · subst sw11
    refine lv_tableIn (tgt := 120) hx hb dX3_teamTold_1 (by decide) (by decide) rfl (by decide) ?_
    refine lv_aload_n hx hb dX3_teamTold_120 rfl (lv_at hl 0 rfl) ?_
    refine lv_iload_n hx hb dX3_teamTold_121 rfl (lv_at hl 1 rfl) ?_
    refine lv_bipush (v := 14) hx hb dX3_teamTold_122 (by decide) ?_
    refine sp_rV (rest := []) (As := [.int (nI i), .int (nI 14)]) ⟨hx, hb, hml, hown, hts⟩ (mX3_get l D cI cT mo g0 t0 z0 MF tv i 14 (F 14) (by omega) (by omega) (by rw [hT]; rfl)) (cwV 2 hts gX3_teamTold_X3_get rfl rfl rfl (by decide +kernel) ⟨Nat.le_of_ble_eq_true rfl, Nat.le_of_ble_eq_true rfl⟩) hK (sp_pick hP [0, 1] rfl) (ci := 3) rfl rfl rfl rfl hl.1 rfl (Nat.le_of_ble_eq_true rfl) dX3_teamTold_124 ⟨Nat.le_of_ble_eq_true rfl, Nat.le_of_ble_eq_true rfl⟩ ?_
    refine sp_top (show F 14 = mTold F P L n 11 from rfl ) ?_
    subst hQ
    exact W.iret hx hb hr (fun t ht _ => ⟨rfl, ht⟩) (fun _ h => nomatch h) dX3_teamTold_127
  refine lv_tableOut (tgt := 128) hx hb dX3_teamTold_1 (sp_out11 sw0 sw1 sw2 sw3 sw4 sw5 sw6 sw7 sw8 sw9 sw10 sw11) (by decide) ?_
  refine lv_aload_n hx hb dX3_teamTold_128 rfl (lv_at hl 0 rfl) ?_
  refine lv_iload_n hx hb dX3_teamTold_129 rfl (lv_at hl 1 rfl) ?_
  refine lv_iload_n hx hb dX3_teamTold_130 rfl (lv_at hl 2 rfl) ?_
  refine lv_iconst (v := 4) hx hb dX3_teamTold_131 (by decide) ?_
  refine lv_isub hx hb dX3_teamTold_132 ?_
  refine sp_rV (rest := []) (As := [.int (nI i), .int (w - 4)]) ⟨hx, hb, hml, hown, hts⟩ (mX3_many l D cI cT mo g0 t0 z0 MF tv i (by omega) F P L G (hT) (w - 4) n hn h2) (cwV 2 hts gX3_teamTold_X3_many rfl rfl rfl (by decide +kernel) ⟨Nat.le_of_ble_eq_true rfl, Nat.le_of_ble_eq_true rfl⟩) hK (sp_pick hP [0, 1] rfl) (ci := 3) rfl rfl rfl rfl hl.1 rfl (Nat.le_of_ble_eq_true rfl) dX3_teamTold_133 ⟨Nat.le_of_ble_eq_true rfl, Nat.le_of_ble_eq_true rfl⟩ ?_
  refine sp_top (show nI (mMany F P L n (w - 4)) = mTold F P L n w from by simp only [mTold, if_neg sw0, if_neg sw1, if_neg sw2, if_neg sw3, if_neg sw4, if_neg sw5, if_neg sw6, if_neg sw7, if_neg sw8, if_neg sw9, if_neg sw10, if_neg sw11]) ?_
  subst hQ
  exact W.iret hx hb hr (fun t ht _ => ⟨rfl, ht⟩) (fun _ h => nomatch h) dX3_teamTold_136
