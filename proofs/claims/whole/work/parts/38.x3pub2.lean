abbrev rmX3_advise : Room := { frames := 10, cells := 0, slots := 0, locals := 231 }
set_option maxHeartbeats 4000000 in
set_option maxRecDepth 100000 in
/-- advise -/
theorem mX3_advise (l : Launch) (D : va_G) (cI cT : ClassId) (mo g0 t0 z0 : Nat) (MF : Nat → Int32) (g : Nat → Int32) (tv : Nat → TV) (z : Nat → Int32) (x y : Int32) (ns : Nat) (hns0 : 0 < ns) (hns : ns ≤ 12) (h5 : MF 5 = nI ns) (nt : Nat) (hnt : nt ≤ 6) (ht : MF 2 = nI nt) (hok : ∀ t, t < nt → mOK (tv t)) : MetI l D cI cT yX3_advise wsX3_advise rmX3_advise [.ref mo, .int x, .int y] [(mo, oM MF g0 t0 z0), (g0, aI cI 39 g), (t0, aI cI 174 (tab tv)), (z0, aI cI 174 z)] [] [(mo, oM (mAdviseC x y MF g ns nt tv).2 g0 t0 z0), (g0, aI cI 39 g), (t0, aI cI 174 (tab tv)), (z0, aI cI 174 (mAdvZ x y MF tv z))] ((mAdviseC x y MF g ns nt tv).1) := by
  refine Met.ofW (cc := cX3_advise) (maxL := 8) (ret := (some .int)) (by decide) rfl ?_
  intro p e s m args below meth c s₁ B hml hv
  obtain ⟨hargs, hP, hR0, hK, hN⟩ := hv
  have hx := B.exec
  have hb := B.bytes
  have hr := B.returns
  have hts := atoms_spec (ws := wsX3_advise) B.pre
  have hown : s.vm.findClass RX3 = some m.cls := findClass_of_methodNamed B.named
  have hlocks := B.notSynchronized
  have hiX3 : ∀ w ∈ u_ws RX3 TX3 9, w ∈ wsX3_advise := by decide +kernel
  have he : entryFrame m args 8 = F0 m 0 ((lg_sl [.ref mo, .int x, .int y] ++ List.replicate (8 - (lg_sl [.ref mo, .int x, .int y]).length) Slot.unset).toArray) [] := by rw [hargs]; exact lg_entry_eq m _ _
  rw [he]
  change W p l e rmX3_advise s m args below meth c s.heap [] 0 0 (MQ below (va_Qi (S := Unit) (fun z _ => z = (mAdviseC x y MF g ns nt tv).1) (fun _ t => va_P D vwCl [(mo, oM (mAdviseC x y MF g ns nt tv).2 g0 t0 z0), (g0, aI cI 39 g), (t0, aI cI 174 (tab tv)), (z0, aI cI 174 (mAdvZ x y MF tv z))] t.heap) (fr (List.map Prod.fst [(mo, oM MF g0 t0 z0), (g0, aI cI 39 g), (t0, aI cI 174 (tab tv)), (z0, aI cI 174 z)]))) args s 0 0 (fr (List.map Prod.fst [(mo, oM MF g0 t0 z0), (g0, aI cI 39 g), (t0, aI cI 174 (tab tv)), (z0, aI cI 174 z)]))) _
  obtain ⟨Q, hQ⟩ : ∃ Q, Q = MQ below (va_Qi (S := Unit) (fun z _ => z = (mAdviseC x y MF g ns nt tv).1) (fun _ t => va_P D vwCl [(mo, oM (mAdviseC x y MF g ns nt tv).2 g0 t0 z0), (g0, aI cI 39 g), (t0, aI cI 174 (tab tv)), (z0, aI cI 174 (mAdvZ x y MF tv z))] t.heap) (fr (List.map Prod.fst [(mo, oM MF g0 t0 z0), (g0, aI cI 39 g), (t0, aI cI 174 (tab tv)), (z0, aI cI 174 z)]))) args s 0 0 (fr (List.map Prod.fst [(mo, oM MF g0 t0 z0), (g0, aI cI 39 g), (t0, aI cI 174 (tab tv)), (z0, aI cI 174 z)])) := ⟨_, rfl⟩
  rw [← hQ]
  have hl := lv_entry [.ref mo, .int x, .int y] (n := 8) (Nat.le_of_ble_eq_true rfl)
  generalize (lg_sl [.ref mo, .int x, .int y] ++ List.replicate (8 - (lg_sl [.ref mo, .int x, .int y]).length) Slot.unset).toArray = ls at hl ⊢
  have hl : lv_has ls 8 [(0, .ref mo), (1, .int x), (2, .int y)] := hl
  obtain ⟨A, hAe⟩ : ∃ A, A = (fr (List.map Prod.fst [(mo, oM MF g0 t0 z0), (g0, aI cI 39 g), (t0, aI cI 174 (tab tv)), (z0, aI cI 174 z)])) := ⟨_, rfl⟩
  have hA0 : ∀ q ∈ List.map Prod.fst [(mo, oM MF g0 t0 z0), (g0, aI cI 39 g), (t0, aI cI 174 (tab tv)), (z0, aI cI 174 z)], A q := by rw [hAe]; exact fun q h => h
  have hD : va_D A [(mo, oM MF g0 t0 z0), (g0, aI cI 39 g), (t0, aI cI 174 (tab tv)), (z0, aI cI 174 z)] := sp_D (List.nodup_append.mp (show (([(mo, oM MF g0 t0 z0), (g0, aI cI 39 g), (t0, aI cI 174 (tab tv)), (z0, aI cI 174 z)] : va_W).map Prod.fst ++ ([] : va_W).map Prod.fst).Nodup by rw [← List.map_append]; exact hN)).1 hA0
  have hN : (List.map Prod.fst ([(mo, oM MF g0 t0 z0), (g0, aI cI 39 g), (t0, aI cI 174 (tab tv)), (z0, aI cI 174 z)] ++ []) : List Nat).Nodup := hN
  have hS : va_S A s.heap s.heap [] := va_S.rf
  obtain ⟨H, hH0⟩ : ∃ H, H = s.heap := ⟨_, rfl⟩
  obtain ⟨locs, hlo⟩ : ∃ L : List Loc, L = [] := ⟨_, rfl⟩
  have hP : va_P D vwCl [(mo, oM MF g0 t0 z0), (g0, aI cI 39 g), (t0, aI cI 174 (tab tv)), (z0, aI cI 174 z)] H := by rw [hH0]; exact hP
  have hS : va_S A s.heap H locs := by rw [hH0, hlo]; exact hS
  rw [show W p l e rmX3_advise s m args below meth c s.heap [] 0 0 Q (F0 m 0 ls []) = W p l e rmX3_advise s m args below meth c H locs 0 0 Q (F0 m 0 ls []) by rw [hH0, hlo]]
  clear hH0 hlo
  refine lv_aload_n hx hb dX3_advise_0 rfl (lv_at hl 0 rfl) ?_
  refine lv_iconst (v := 0) hx hb dX3_advise_1 (by decide) ?_
  refine va_put (D := D) (ci := 3) (v := .int 0) (ty := .int) (C := RX3) (T := TX3) (N := 9) hx hb hts hiX3 tyX3 tyX3_ok nmX3 hown hK.1 hP hD hS 0 rfl rfl 0 (by decide) (hts (.fieldLink RX3 26 "SledgeRaceModel" "thrown" "I") (by decide +kernel)) (fun _ h9 => h9) rfl (by decide +kernel) rfl rfl (Nat.le_of_ble_eq_true rfl) dX3_advise_2 (fun H locs hP hD hS => ?_)
  have hP : va_P D vwCl [(mo, oM (upd MF 0 0) g0 t0 z0), (g0, aI cI 39 g), (t0, aI cI 174 (tab tv)), (z0, aI cI 174 z)] H := hP
  have hD : va_D A [(mo, oM (upd MF 0 0) g0 t0 z0), (g0, aI cI 39 g), (t0, aI cI 174 (tab tv)), (z0, aI cI 174 z)] := hD
  refine lv_aload_n hx hb dX3_advise_5 rfl (lv_at hl 0 rfl) ?_
  refine lv_iload_n hx hb dX3_advise_6 rfl (lv_at hl 1 rfl) ?_
  refine sp_rV (rest := []) (As := [.int x]) ⟨hx, hb, hml, hown, hts⟩ (mX3_isTeam l D cI cT mo g0 t0 z0 (upd MF 0 0) x) (cwV 1 hts gX3_advise_X3_isTeam rfl rfl rfl (by decide +kernel) ⟨Nat.le_of_ble_eq_true rfl, Nat.le_of_ble_eq_true rfl⟩) hK (sp_pick hP [0] rfl) (ci := 3) rfl rfl rfl rfl hl.1 rfl (Nat.le_of_ble_eq_true rfl) dX3_advise_7 ⟨Nat.le_of_ble_eq_true rfl, Nat.le_of_ble_eq_true rfl⟩ ?_
  refine sp_top (show bI (isIn x 0 ((upd MF 0 0) 2 - 1)) = bI (isIn x 0 (MF 2 - 1)) from rfl) ?_
  refine sp_if_ne (tgt := 19) hx hb dX3_advise_10 (by decide) (fun c10 => ?_) (fun c10 => ?_)
  · skip
    obtain ⟨i, hi, rfl⟩ := isIn_nat (b := nt) (by omega) (show isIn x 0 (nI nt - 1) = true from by rw [← ht]; exact c10)
    refine lv_iload_n hx hb dX3_advise_19 rfl (lv_at hl 2 rfl) ?_
    refine lv_iconst (v := 1) hx hb dX3_advise_20 (by decide) ?_
    refine lv_sipush (v := 200) hx hb dX3_advise_21 (by decide) ?_
    refine sp_rS (rest := []) (As := [.int y, .int 1, .int 200]) ⟨hx, hb, hml, hown, hts⟩ (mX3_isIn l D cI cT y 1 200) (va_cwS 3 hts gX3_advise_X3_isIn rfl rfl rfl (by decide +kernel) ⟨Nat.le_of_ble_eq_true rfl, Nat.le_of_ble_eq_true rfl⟩) hK (show va_P D vwCl [] _ from fun k q h => by simp at h) rfl hl.1 rfl (Nat.le_of_ble_eq_true rfl) dX3_advise_24 ⟨Nat.le_of_ble_eq_true rfl, Nat.le_of_ble_eq_true rfl⟩ ?_
    refine sp_if_ne (tgt := 36) hx hb dX3_advise_27 (by decide) (fun c27 => ?_) (fun c27 => ?_)
    · skip
      obtain ⟨k, hk1, hk2, rfl⟩ := isIn_rng (a := 1) (b := 200) (by decide) (by decide) c27
      refine lv_aload_n hx hb dX3_advise_36 rfl (lv_at hl 0 rfl) ?_
      refine lv_iload_n hx hb dX3_advise_37 rfl (lv_at hl 1 rfl) ?_
      refine lv_bipush (v := 7) hx hb dX3_advise_38 (by decide) ?_
      refine sp_rV (rest := []) (As := [.int (nI i), .int (nI 7)]) ⟨hx, hb, hml, hown, hts⟩ (mX3_get l D cI cT mo g0 t0 z0 (upd MF 0 0) tv i 7 (((tv i).1) 7) (by omega) (by omega) (rfl)) (cwV 2 hts gX3_advise_X3_get rfl rfl rfl (by decide +kernel) ⟨Nat.le_of_ble_eq_true rfl, Nat.le_of_ble_eq_true rfl⟩) hK (sp_pick hP [0, 2] rfl) (ci := 3) rfl rfl rfl rfl hl.1 rfl (Nat.le_of_ble_eq_true rfl) dX3_advise_40 ⟨Nat.le_of_ble_eq_true rfl, Nat.le_of_ble_eq_true rfl⟩ ?_
      refine lv_istore_n (lv' := [(3, .int (((tv i).1) 7)), (0, .ref mo), (1, .int (nI i)), (2, .int (nI k))]) hx hb dX3_advise_43 rfl hl (by decide) rfl (fun ls hl => ?_)
      refine lv_iconst (v := 0) hx hb dX3_advise_44 (by decide) ?_
      refine lv_istore (lv' := [(4, .int 0), (3, .int (((tv i).1) 7)), (0, .ref mo), (1, .int (nI i)), (2, .int (nI k))]) hx hb dX3_advise_45 hl (by decide) rfl (fun ls hl => ?_)
      refine lv_iconst (v := (-1)) hx hb dX3_advise_47 (by decide) ?_
      refine lv_istore (lv' := [(5, .int (-1)), (4, .int 0), (3, .int (((tv i).1) 7)), (0, .ref mo), (1, .int (nI i)), (2, .int (nI k))]) hx hb dX3_advise_48 hl (by decide) rfl (fun ls hl => ?_)
      refine lv_iconst (v := nI 0) hx hb dX3_advise_50 (by decide) ?_
      refine lv_istore (lv' := [(6, .int (nI 0)), (5, .int (-1)), (4, .int 0), (3, .int (((tv i).1) 7)), (0, .ref mo), (1, .int (nI i)), (2, .int (nI k))]) hx hb dX3_advise_51 hl (by decide) rfl (fun ls hl => ?_)
      have loop53 : ∀ (fu : Nat) (ee : Nat) (a : Int32) (b : Int32) (v : Int32) (z1 : Nat → Int32), (11 - ee) < fu → (ee ≤ 11) → (mBest (fun e => mTry MF g ns nt tv i k (nI e)) ee = (a, b)) → (z1 = mZ tv i z ee) → ∀ (H : Heap) (locs : List Loc), va_P D vwCl [(mo, oM (upd MF 0 0) g0 t0 z0), (g0, aI cI 39 g), (t0, aI cI 174 (tab (setT tv i (upd ((tv i).1) 7 v, (tv i).2.1, (tv i).2.2.1, (tv i).2.2.2)))), (z0, aI cI 174 z1)] H → va_D A [(mo, oM (upd MF 0 0) g0 t0 z0), (g0, aI cI 39 g), (t0, aI cI 174 (tab (setT tv i (upd ((tv i).1) 7 v, (tv i).2.1, (tv i).2.2.1, (tv i).2.2.2)))), (z0, aI cI 174 z1)] → va_S A s.heap H locs → ∀ (ls : Array Slot), lv_has ls 8 [(6, .int (nI ee)), (5, .int b), (4, .int a), (3, .int ((tv i).1 7)), (0, .ref mo), (1, .int (nI i)), (2, .int (nI k))] → W p l e rmX3_advise s m args below meth c H locs 0 0 Q (F0 m 53 ls []) := by
        intro fu
        induction fu with
        | zero => intro ee a b v z1 hfu; exact absurd hfu (Nat.not_lt_zero _)
        | succ fu ih53 =>
          intro ee a b v z1 hfu53 hee hab ez
          intro H locs hP hD hS ls hl
          refine lv_iload hx hb dX3_advise_53 (lv_at hl 0 rfl) ?_
          refine lv_bipush (v := nI 10) hx hb dX3_advise_55 (by decide) ?_
          refine sp_gt (by omega) (by omega) (tgt := 102) hx hb dX3_advise_57 (by decide) (fun c57 => ?_) (fun c57 => ?_)
          · skip
            refine lv_aload_n hx hb dX3_advise_102 rfl (lv_at hl 4 rfl) ?_
            refine lv_iload_n hx hb dX3_advise_103 rfl (lv_at hl 5 rfl) ?_
            refine lv_bipush (v := 7) hx hb dX3_advise_104 (by decide) ?_
            refine lv_iload_n hx hb dX3_advise_106 rfl (lv_at hl 3 rfl) ?_
            refine sp_vV (rest := []) (As := [.int (nI i), .int (nI 7), .int ((tv i).1 7)]) (W1 := [(mo, oM (upd MF 0 0) g0 t0 z0), (g0, aI cI 39 g), (t0, aI cI 174 (tab (setT (setT tv i (upd ((tv i).1) 7 v, (tv i).2.1, (tv i).2.2.1, (tv i).2.2.2)) i (upd (upd ((tv i).1) 7 v) 7 ((tv i).1 7), (tv i).2.1, (tv i).2.2.1, (tv i).2.2.2)))), (z0, aI cI 174 z1)]) ⟨hx, hb, hml, hown, hts⟩ (mX3_set l D cI cT mo g0 t0 z0 (upd MF 0 0) (setT tv i (upd ((tv i).1) 7 v, (tv i).2.1, (tv i).2.2.1, (tv i).2.2.2)) i 7 ((tv i).1 7) (upd (upd ((tv i).1) 7 v) 7 ((tv i).1 7), (tv i).2.1, (tv i).2.2.1, (tv i).2.2.2) (by omega) (by omega) (fun b _ => by rw [setT_i _ _ _]; exact rs_F (by decide) b)) (cwV 3 hts gX3_advise_X3_set rfl rfl rfl (by decide +kernel) ⟨Nat.le_of_ble_eq_true rfl, Nat.le_of_ble_eq_true rfl⟩) hK hP hD hS [0, 2] rfl (fun k q h => by simp at h) (sp_nsub hN [0, 2] (by decide) rfl) rfl rfl rfl (ci := 3) rfl rfl rfl rfl hl.1 rfl (Nat.le_of_ble_eq_true rfl) dX3_advise_107 ⟨Nat.le_of_ble_eq_true rfl, Nat.le_of_ble_eq_true rfl⟩ (fun H locs hP hD hS => ?_)
            rw [setT_setT] at hP hD
            have hP : va_P D vwCl [(mo, oM (upd MF 0 0) g0 t0 z0), (g0, aI cI 39 g), (t0, aI cI 174 (tab tv)), (z0, aI cI 174 z1)] H := by rw [setT_back] at hP; exact hP
            have hD : va_D A [(mo, oM (upd MF 0 0) g0 t0 z0), (g0, aI cI 39 g), (t0, aI cI 174 (tab tv)), (z0, aI cI 174 z1)] := by rw [setT_back] at hD; exact hD
            refine lv_iload hx hb dX3_advise_110 (lv_at hl 2 rfl) ?_
            have eq9 : (mAdviseC (nI i) (nI k) MF g ns nt tv) = (a, upd MF 0 0) := by unfold mAdviseC; rw [if_pos c10, if_pos c27, nI_clamp (by omega), nI_clamp (by omega), show 11 = ee from by omega, hab]
            refine sp_top (show a = (mAdviseC (nI i) (nI k) MF g ns nt tv).1 from by rw [eq9]) ?_
            subst hQ
            have hP9 : va_P D vwCl [(mo, oM (mAdviseC (nI i) (nI k) MF g ns nt tv).2 g0 t0 z0), (g0, aI cI 39 g), (t0, aI cI 174 (tab tv)), (z0, aI cI 174 (mAdvZ (nI i) (nI k) MF tv z))] H := by rw [eq9]; unfold mAdvZ; rw [if_pos (by rw [c10, c27]; rfl), nI_clamp (by omega)]; have en : 11 = ee := (by omega); subst en; rw [ez] at hP; exact hP
            subst hAe
            exact W.iret hx hb hr (fun t ht hW => ⟨⟨_, (), rfl, rfl, by show va_P D vwCl _ t.heap; rw [ht]; exact hP9⟩, hS.F ht⟩) hS.2.2 dX3_advise_112
          · skip
            refine lv_aload_n hx hb dX3_advise_60 rfl (lv_at hl 4 rfl) ?_
            refine lv_iload_n hx hb dX3_advise_61 rfl (lv_at hl 5 rfl) ?_
            refine lv_bipush (v := 7) hx hb dX3_advise_62 (by decide) ?_
            refine lv_iload hx hb dX3_advise_64 (lv_at hl 0 rfl) ?_
            refine sp_vV (rest := []) (As := [.int (nI i), .int (nI 7), .int (nI ee)]) (W1 := [(mo, oM (upd MF 0 0) g0 t0 z0), (g0, aI cI 39 g), (t0, aI cI 174 (tab (setT (setT tv i (upd ((tv i).1) 7 v, (tv i).2.1, (tv i).2.2.1, (tv i).2.2.2)) i (upd (upd ((tv i).1) 7 v) 7 (nI ee), (tv i).2.1, (tv i).2.2.1, (tv i).2.2.2)))), (z0, aI cI 174 z1)]) ⟨hx, hb, hml, hown, hts⟩ (mX3_set l D cI cT mo g0 t0 z0 (upd MF 0 0) (setT tv i (upd ((tv i).1) 7 v, (tv i).2.1, (tv i).2.2.1, (tv i).2.2.2)) i 7 (nI ee) (upd (upd ((tv i).1) 7 v) 7 (nI ee), (tv i).2.1, (tv i).2.2.1, (tv i).2.2.2) (by omega) (by omega) (fun b _ => by rw [setT_i _ _ _]; exact rs_F (by decide) b)) (cwV 3 hts gX3_advise_X3_set rfl rfl rfl (by decide +kernel) ⟨Nat.le_of_ble_eq_true rfl, Nat.le_of_ble_eq_true rfl⟩) hK hP hD hS [0, 2] rfl (fun k q h => by simp at h) (sp_nsub hN [0, 2] (by decide) rfl) rfl rfl rfl (ci := 3) rfl rfl rfl rfl hl.1 rfl (Nat.le_of_ble_eq_true rfl) dX3_advise_66 ⟨Nat.le_of_ble_eq_true rfl, Nat.le_of_ble_eq_true rfl⟩ (fun H locs hP hD hS => ?_)
            rw [setT_setT] at hP hD
            rw [upd_twice] at hP hD
            refine lv_aload_n hx hb dX3_advise_69 rfl (lv_at hl 4 rfl) ?_
            refine lv_iload_n hx hb dX3_advise_70 rfl (lv_at hl 5 rfl) ?_
            refine lv_iload_n hx hb dX3_advise_71 rfl (lv_at hl 6 rfl) ?_
            refine lv_iconst (v := 0) hx hb dX3_advise_72 (by decide) ?_
            have hsee := mSeeC_see (MF := MF) (g := g) (ns := ns) (nt := nt) (tv := tv) (v := nI ee) (show isIn (nI i) 0 (MF 2 - 1) = true from c10) (by omega) hk1 hk2
            refine sp_vI (rest := []) (As := [.int (nI i), .int (nI k), .int 0]) (W1 := [(mo, oM ((mSeeC (nI i) (nI k) 0 (upd MF 0 0) g ns nt (mEffT tv i (nI ee))).2) g0 t0 z0), (g0, aI cI 39 g), (t0, aI cI 174 (tab (mEffT tv i (nI ee)))), (z0, aI cI 174 (mSeeZ (nI i) (nI k) 0 (upd MF 0 0) (mEffT tv i (nI ee)) z1))]) ⟨hx, hb, hml, hown, hts⟩ (mX3_foresee l D cI cT mo g0 t0 z0 (upd MF 0 0) g (mEffT tv i (nI ee)) z1 (nI i) (nI k) 0 ns hns0 hns h5 nt hnt ht (setT_ok hok hi)) (cwV 3 hts gX3_advise_X3_foresee rfl rfl rfl (by decide +kernel) ⟨Nat.le_of_ble_eq_true rfl, Nat.le_of_ble_eq_true rfl⟩) hK hP hD hS [0, 1, 2, 3] rfl (fun k q h => by simp at h) (sp_nsub hN [0, 1, 2, 3] (by decide) rfl) rfl rfl rfl (ci := 3) rfl rfl rfl rfl hl.1 rfl (Nat.le_of_ble_eq_true rfl) dX3_advise_73 ⟨Nat.le_of_ble_eq_true rfl, Nat.le_of_ble_eq_true rfl⟩ (fun H locs hP hD hS => ?_)
            rw [hsee.1, hsee.2] at hP hD
            have hP : va_P D vwCl [(mo, oM (upd MF 0 0) g0 t0 z0), (g0, aI cI 39 g), (t0, aI cI 174 (tab (setT tv i (upd ((tv i).1) 7 (nI ee), (tv i).2.1, (tv i).2.2.1, (tv i).2.2.2)))), (z0, aI cI 174 (tab (mEffT tv i (nI ee))))] H := hP
            have hD : va_D A [(mo, oM (upd MF 0 0) g0 t0 z0), (g0, aI cI 39 g), (t0, aI cI 174 (tab (setT tv i (upd ((tv i).1) 7 (nI ee), (tv i).2.1, (tv i).2.2.1, (tv i).2.2.2)))), (z0, aI cI 174 (tab (mEffT tv i (nI ee))))] := hD
            refine sp_top (show (mSeeC (nI i) (nI k) 0 (upd MF 0 0) g ns nt (mEffT tv i (nI ee))).1 = mTry MF g ns nt tv i k (nI ee) from by rw [hsee.1]) ?_
            refine lv_istore (lv' := [(7, .int (mTry MF g ns nt tv i k (nI ee))), (6, .int (nI ee)), (5, .int b), (4, .int a), (3, .int ((tv i).1 7)), (0, .ref mo), (1, .int (nI i)), (2, .int (nI k))]) hx hb dX3_advise_76 hl (by decide) rfl (fun ls hl => ?_)
            refine lv_iload hx hb dX3_advise_78 (lv_at hl 0 rfl) ?_
            refine lv_iload hx hb dX3_advise_80 (lv_at hl 2 rfl) ?_
            refine lv_icmp_gt (tgt := 88) hx hb dX3_advise_82 (by decide) (fun c82 => ?_) (fun c82 => ?_)
            · skip
              refine lv_iload hx hb dX3_advise_88 (lv_at hl 0 rfl) ?_
              refine lv_istore (lv' := [(5, .int (mTry MF g ns nt tv i k (nI ee))), (7, .int (mTry MF g ns nt tv i k (nI ee))), (6, .int (nI ee)), (4, .int a), (3, .int ((tv i).1 7)), (0, .ref mo), (1, .int (nI i)), (2, .int (nI k))]) hx hb dX3_advise_90 hl (by decide) rfl (fun ls hl => ?_)
              refine lv_iload hx hb dX3_advise_92 (lv_at hl 2 rfl) ?_
              refine lv_istore (lv' := [(4, .int (nI ee)), (5, .int (mTry MF g ns nt tv i k (nI ee))), (7, .int (mTry MF g ns nt tv i k (nI ee))), (6, .int (nI ee)), (3, .int ((tv i).1 7)), (0, .ref mo), (1, .int (nI i)), (2, .int (nI k))]) hx hb dX3_advise_94 hl (by decide) rfl (fun ls hl => ?_)
              refine lv_iinc (v := nI (ee + 1)) (lv' := [(6, .int (nI (ee + 1))), (4, .int (nI ee)), (5, .int (mTry MF g ns nt tv i k (nI ee))), (7, .int (mTry MF g ns nt tv i k (nI ee))), (3, .int ((tv i).1 7)), (0, .ref mo), (1, .int (nI i)), (2, .int (nI k))]) hx hb dX3_advise_96 hl (k := 3) rfl ((nI_1 ee)) (by decide) rfl (fun ls hl => ?_)
              refine lv_goto (tgt := 53) hx hb dX3_advise_99 (by decide) ?_
              exact ih53 (ee + 1) (nI ee) (mTry MF g ns nt tv i k (nI ee)) (nI ee) (tab (mEffT tv i (nI ee))) (by omega) (by omega) (by show (if (mBest (fun e => mTry MF g ns nt tv i k (nI e)) ee).2 < mTry MF g ns nt tv i k (nI ee) then _ else mBest (fun e => mTry MF g ns nt tv i k (nI e)) ee) = _; rw [hab]; exact if_pos c82) (rfl) _ _ hP hD hS ls (lv_sub hl [0, 2, 1, 4, 5, 6, 7] rfl)
            · skip
              refine lv_goto (tgt := 96) hx hb dX3_advise_85 (by decide) ?_
              refine lv_iinc (v := nI (ee + 1)) (lv' := [(6, .int (nI (ee + 1))), (7, .int (mTry MF g ns nt tv i k (nI ee))), (5, .int b), (4, .int a), (3, .int ((tv i).1 7)), (0, .ref mo), (1, .int (nI i)), (2, .int (nI k))]) hx hb dX3_advise_96 hl (k := 1) rfl ((nI_1 ee)) (by decide) rfl (fun ls hl => ?_)
              refine lv_goto (tgt := 53) hx hb dX3_advise_99 (by decide) ?_
              exact ih53 (ee + 1) a b (nI ee) (tab (mEffT tv i (nI ee))) (by omega) (by omega) (by show (if (mBest (fun e => mTry MF g ns nt tv i k (nI e)) ee).2 < mTry MF g ns nt tv i k (nI ee) then _ else mBest (fun e => mTry MF g ns nt tv i k (nI e)) ee) = _; rw [hab]; exact if_neg c82) (rfl) _ _ hP hD hS ls (lv_sub hl [0, 2, 3, 4, 5, 6, 7] rfl)
      exact loop53 _ 0 0 (-1) ((tv i).1 7) z (Nat.lt_succ_self _) (Nat.zero_le _) (rfl) (rfl) _ _ (by rw [setT_eff0]; exact hP) (by rw [setT_eff0]; exact hD) hS ls (lv_sub hl [0, 1, 2, 3, 4, 5, 6] rfl)
    · skip
      refine lv_aload_n hx hb dX3_advise_30 rfl (lv_at hl 0 rfl) ?_
      refine lv_iconst (v := 2) hx hb dX3_advise_31 (by decide) ?_
      refine sp_vI (rest := []) (As := [.int 2]) (W1 := [(mo, oM (upd (upd MF 0 0) 0 2) g0 t0 z0), (g0, aI cI 39 g), (t0, aI cI 174 (tab tv)), (z0, aI cI 174 z)]) ⟨hx, hb, hml, hown, hts⟩ (mX3_fail l D cI cT mo g0 t0 z0 (upd MF 0 0) 2) (cwV 1 hts gX3_advise_X3_fail rfl rfl rfl (by decide +kernel) ⟨Nat.le_of_ble_eq_true rfl, Nat.le_of_ble_eq_true rfl⟩) hK hP hD hS [0] rfl (fun k q h => by simp at h) (sp_nsub hN [0] (by decide) rfl) rfl rfl rfl (ci := 3) rfl rfl rfl rfl hl.1 rfl (Nat.le_of_ble_eq_true rfl) dX3_advise_32 ⟨Nat.le_of_ble_eq_true rfl, Nat.le_of_ble_eq_true rfl⟩ (fun H locs hP hD hS => ?_)
      have eq9 : (mAdviseC (nI i) y MF g ns nt tv) = (0, upd MF 0 2) := by unfold mAdviseC; rw [if_pos c10, if_neg (by rw [c27]; decide)]
      refine sp_top (show 0 = (mAdviseC (nI i) y MF g ns nt tv).1 from by rw [eq9]) ?_
      subst hQ
      have hP9 : va_P D vwCl [(mo, oM (mAdviseC (nI i) y MF g ns nt tv).2 g0 t0 z0), (g0, aI cI 39 g), (t0, aI cI 174 (tab tv)), (z0, aI cI 174 (mAdvZ (nI i) y MF tv z))] H := by rw [eq9]; unfold mAdvZ; rw [if_neg (by simp [c27])]; exact hP
      subst hAe
      exact W.iret hx hb hr (fun t ht hW => ⟨⟨_, (), rfl, rfl, by show va_P D vwCl _ t.heap; rw [ht]; exact hP9⟩, hS.F ht⟩) hS.2.2 dX3_advise_35
  · skip
    refine lv_aload_n hx hb dX3_advise_13 rfl (lv_at hl 0 rfl) ?_
    refine lv_iconst (v := 1) hx hb dX3_advise_14 (by decide) ?_
    refine sp_vI (rest := []) (As := [.int 1]) (W1 := [(mo, oM (upd (upd MF 0 0) 0 1) g0 t0 z0), (g0, aI cI 39 g), (t0, aI cI 174 (tab tv)), (z0, aI cI 174 z)]) ⟨hx, hb, hml, hown, hts⟩ (mX3_fail l D cI cT mo g0 t0 z0 (upd MF 0 0) 1) (cwV 1 hts gX3_advise_X3_fail rfl rfl rfl (by decide +kernel) ⟨Nat.le_of_ble_eq_true rfl, Nat.le_of_ble_eq_true rfl⟩) hK hP hD hS [0] rfl (fun k q h => by simp at h) (sp_nsub hN [0] (by decide) rfl) rfl rfl rfl (ci := 3) rfl rfl rfl rfl hl.1 rfl (Nat.le_of_ble_eq_true rfl) dX3_advise_15 ⟨Nat.le_of_ble_eq_true rfl, Nat.le_of_ble_eq_true rfl⟩ (fun H locs hP hD hS => ?_)
    have eq9 : (mAdviseC x y MF g ns nt tv) = (0, upd MF 0 1) := by unfold mAdviseC; rw [if_neg (by rw [c10]; decide)]
    refine sp_top (show 0 = (mAdviseC x y MF g ns nt tv).1 from by rw [eq9]) ?_
    subst hQ
    have hP9 : va_P D vwCl [(mo, oM (mAdviseC x y MF g ns nt tv).2 g0 t0 z0), (g0, aI cI 39 g), (t0, aI cI 174 (tab tv)), (z0, aI cI 174 (mAdvZ x y MF tv z))] H := by rw [eq9]; unfold mAdvZ; rw [if_neg (by simp [c10])]; exact hP
    subst hAe
    exact W.iret hx hb hr (fun t ht hW => ⟨⟨_, (), rfl, rfl, by show va_P D vwCl _ t.heap; rw [ht]; exact hP9⟩, hS.F ht⟩) hS.2.2 dX3_advise_18

abbrev rmX3_digest : Room := { frames := 5, cells := 0, slots := 0, locals := 114 }
set_option maxHeartbeats 4000000 in
set_option maxRecDepth 100000 in
/-- digest -/
theorem mX3_digest (l : Launch) (D : va_G) (cI cT : ClassId) (mo g0 t0 z0 : Nat) (MF : Nat → Int32) (tv : Nat → TV) (nt : Nat) (hnt : nt ≤ 6) (ht : MF 2 = nI nt) (hok : ∀ t, t < nt → mOK (tv t)) : MetL l D cI cT yX3_digest wsX3_digest rmX3_digest [.ref mo] [(mo, oM MF g0 t0 z0), (t0, aI cI 174 (tab tv))] [] [(mo, oM (upd MF 0 0) g0 t0 z0), (t0, aI cI 174 (tab tv))] (mDigest MF tv nt) := by
  refine Met.ofW (cc := cX3_digest) (maxL := 5) (ret := (some .long)) (by decide) rfl ?_
  intro p e s m args below meth c s₁ B hml hv
  obtain ⟨hargs, hP, hR0, hK, hN⟩ := hv
  have hx := B.exec
  have hb := B.bytes
  have hr := B.returns
  have hts := atoms_spec (ws := wsX3_digest) B.pre
  have hown : s.vm.findClass RX3 = some m.cls := findClass_of_methodNamed B.named
  have hlocks := B.notSynchronized
  have hiX3 : ∀ w ∈ u_ws RX3 TX3 9, w ∈ wsX3_digest := by decide +kernel
  have he : entryFrame m args 5 = F0 m 0 ((lg_sl [.ref mo] ++ List.replicate (5 - (lg_sl [.ref mo]).length) Slot.unset).toArray) [] := by rw [hargs]; exact lg_entry_eq m _ _
  rw [he]
  change W p l e rmX3_digest s m args below meth c s.heap [] 0 0 (MQ below (va_Ql (S := Unit) (fun z _ => z = mDigest MF tv nt) (fun _ t => va_P D vwCl [(mo, oM (upd MF 0 0) g0 t0 z0), (t0, aI cI 174 (tab tv))] t.heap) (fr (List.map Prod.fst [(mo, oM MF g0 t0 z0), (t0, aI cI 174 (tab tv))]))) args s 0 0 (fr (List.map Prod.fst [(mo, oM MF g0 t0 z0), (t0, aI cI 174 (tab tv))]))) _
  obtain ⟨Q, hQ⟩ : ∃ Q, Q = MQ below (va_Ql (S := Unit) (fun z _ => z = mDigest MF tv nt) (fun _ t => va_P D vwCl [(mo, oM (upd MF 0 0) g0 t0 z0), (t0, aI cI 174 (tab tv))] t.heap) (fr (List.map Prod.fst [(mo, oM MF g0 t0 z0), (t0, aI cI 174 (tab tv))]))) args s 0 0 (fr (List.map Prod.fst [(mo, oM MF g0 t0 z0), (t0, aI cI 174 (tab tv))])) := ⟨_, rfl⟩
  rw [← hQ]
  have hl := lv_entry [.ref mo] (n := 5) (Nat.le_of_ble_eq_true rfl)
  generalize (lg_sl [.ref mo] ++ List.replicate (5 - (lg_sl [.ref mo]).length) Slot.unset).toArray = ls at hl ⊢
  have hl : lv_has ls 5 [(0, .ref mo)] := hl
  obtain ⟨A, hAe⟩ : ∃ A, A = (fr (List.map Prod.fst [(mo, oM MF g0 t0 z0), (t0, aI cI 174 (tab tv))])) := ⟨_, rfl⟩
  have hA0 : ∀ q ∈ List.map Prod.fst [(mo, oM MF g0 t0 z0), (t0, aI cI 174 (tab tv))], A q := by rw [hAe]; exact fun q h => h
  have hD : va_D A [(mo, oM MF g0 t0 z0), (t0, aI cI 174 (tab tv))] := sp_D (List.nodup_append.mp (show (([(mo, oM MF g0 t0 z0), (t0, aI cI 174 (tab tv))] : va_W).map Prod.fst ++ ([] : va_W).map Prod.fst).Nodup by rw [← List.map_append]; exact hN)).1 hA0
  have hN : (List.map Prod.fst ([(mo, oM MF g0 t0 z0), (t0, aI cI 174 (tab tv))] ++ []) : List Nat).Nodup := hN
  have hS : va_S A s.heap s.heap [] := va_S.rf
  obtain ⟨H, hH0⟩ : ∃ H, H = s.heap := ⟨_, rfl⟩
  obtain ⟨locs, hlo⟩ : ∃ L : List Loc, L = [] := ⟨_, rfl⟩
  have hP : va_P D vwCl [(mo, oM MF g0 t0 z0), (t0, aI cI 174 (tab tv))] H := by rw [hH0]; exact hP
  have hS : va_S A s.heap H locs := by rw [hH0, hlo]; exact hS
  rw [show W p l e rmX3_digest s m args below meth c s.heap [] 0 0 Q (F0 m 0 ls []) = W p l e rmX3_digest s m args below meth c H locs 0 0 Q (F0 m 0 ls []) by rw [hH0, hlo]]
  clear hH0 hlo
  refine lv_aload_n hx hb dX3_digest_0 rfl (lv_at hl 0 rfl) ?_
  refine lv_iconst (v := 0) hx hb dX3_digest_1 (by decide) ?_
  refine va_put (D := D) (ci := 3) (v := .int 0) (ty := .int) (C := RX3) (T := TX3) (N := 9) hx hb hts hiX3 tyX3 tyX3_ok nmX3 hown hK.1 hP hD hS 0 rfl rfl 0 (by decide) (hts (.fieldLink RX3 26 "SledgeRaceModel" "thrown" "I") (by decide +kernel)) (fun _ h9 => h9) rfl (by decide +kernel) rfl rfl (Nat.le_of_ble_eq_true rfl) dX3_digest_2 (fun H locs hP hD hS => ?_)
  have hP : va_P D vwCl [(mo, oM (upd MF 0 0) g0 t0 z0), (t0, aI cI 174 (tab tv))] H := hP
  have hD : va_D A [(mo, oM (upd MF 0 0) g0 t0 z0), (t0, aI cI 174 (tab tv))] := hD
  refine lv_ldc2 hx hb hown (hts (.constantLong RX3 137 (461)) (by decide +kernel)) dX3_digest_5 ?_
  refine lv_lstore_n (lv' := [(1, .long 461), (0, .ref mo)]) hx hb dX3_digest_8 rfl hl (by decide) rfl (fun ls hl => ?_)
  refine lv_iconst (v := nI 0) hx hb dX3_digest_9 (by decide) ?_
  refine lv_istore_n (lv' := [(3, .int (nI 0)), (1, .long 461), (0, .ref mo)]) hx hb dX3_digest_10 rfl hl (by decide) rfl (fun ls hl => ?_)
  have loop11 : ∀ (fu : Nat) (k : Nat) (d : Int64), (6 - k) < fu → (k ≤ 6) → (d = dgL (fun w => mCount MF tv nt (nI w)) 461 k) → ∀ (H : Heap) (locs : List Loc), va_P D vwCl [(mo, oM (upd MF 0 0) g0 t0 z0), (t0, aI cI 174 (tab tv))] H → va_D A [(mo, oM (upd MF 0 0) g0 t0 z0), (t0, aI cI 174 (tab tv))] → va_S A s.heap H locs → ∀ (ls : Array Slot), lv_has ls 5 [(3, .int (nI k)), (1, .long d), (0, .ref mo)] → W p l e rmX3_digest s m args below meth c H locs 0 0 Q (F0 m 11 ls []) := by
    intro fu
    induction fu with
    | zero => intro k d hfu; exact absurd hfu (Nat.not_lt_zero _)
    | succ fu ih11 =>
      intro k d hfu11 hk ed
      intro H locs hP hD hS ls hl
      refine lv_iload_n hx hb dX3_digest_11 rfl (lv_at hl 0 rfl) ?_
      refine lv_bipush (v := nI 6) hx hb dX3_digest_12 (by decide) ?_
      refine sp_ge (by omega) (by omega) (tgt := 36) hx hb dX3_digest_14 (by decide) (fun c14 => ?_) (fun c14 => ?_)
      · skip
        refine lv_iconst (v := nI 0) hx hb dX3_digest_36 (by decide) ?_
        refine lv_istore_n (lv' := [(3, .int (nI 0)), (1, .long d), (0, .ref mo)]) hx hb dX3_digest_37 rfl hl (by decide) rfl (fun ls hl => ?_)
        have loop38 : ∀ (fu : Nat) (t : Nat) (f : Int64), (nt - t) < fu → (t ≤ nt) → (f = mDgs tv (dgL (fun w => mCount MF tv nt (nI w)) 461 6) t) → ∀ (H : Heap) (locs : List Loc), va_P D vwCl [(mo, oM (upd MF 0 0) g0 t0 z0), (t0, aI cI 174 (tab tv))] H → va_D A [(mo, oM (upd MF 0 0) g0 t0 z0), (t0, aI cI 174 (tab tv))] → va_S A s.heap H locs → ∀ (ls : Array Slot), lv_has ls 5 [(3, .int (nI t)), (1, .long f), (0, .ref mo)] → W p l e rmX3_digest s m args below meth c H locs 0 0 Q (F0 m 38 ls []) := by
          intro fu
          induction fu with
          | zero => intro t f hfu; exact absurd hfu (Nat.not_lt_zero _)
          | succ fu ih38 =>
            intro t f hfu38 hti ef
            intro H locs hP hD hS ls hl
            refine lv_iload_n hx hb dX3_digest_38 rfl (lv_at hl 0 rfl) ?_
            refine lv_aload_n hx hb dX3_digest_39 rfl (lv_at hl 2 rfl) ?_
            refine va_get (D := D) (ci := 3) (v := .int (nI nt)) (C := RX3) (T := TX3) (N := 9) hx hb hts hiX3 hown hK.1 hP 0 rfl rfl 2 (by decide) (hts (.fieldLink RX3 29 "SledgeRaceModel" "teams" "I") (by decide +kernel)) (fun _ h9 => h9) (congrArg (fun z => some (Value.int z)) ht) dX3_digest_40 ?_
            refine sp_ge (by omega) (by omega) (tgt := 137) hx hb dX3_digest_43 (by decide) (fun c43 => ?_) (fun c43 => ?_)
            · skip
              refine lv_iconst (v := nI 0) hx hb dX3_digest_137 (by decide) ?_
              refine lv_istore_n (lv' := [(3, .int (nI 0)), (1, .long f), (0, .ref mo)]) hx hb dX3_digest_138 rfl hl (by decide) rfl (fun ls hl => ?_)
              have loop139 : ∀ (fu : Nat) (r : Nat) (u : Int64), (nt - r) < fu → (r ≤ nt) → (u = dgL (fun r => nI (mAt tv nt (nI r))) (mDgs tv (dgL (fun w => mCount MF tv nt (nI w)) 461 6) nt) r) → ∀ (H : Heap) (locs : List Loc), va_P D vwCl [(mo, oM (upd MF 0 0) g0 t0 z0), (t0, aI cI 174 (tab tv))] H → va_D A [(mo, oM (upd MF 0 0) g0 t0 z0), (t0, aI cI 174 (tab tv))] → va_S A s.heap H locs → ∀ (ls : Array Slot), lv_has ls 5 [(3, .int (nI r)), (1, .long u), (0, .ref mo)] → W p l e rmX3_digest s m args below meth c H locs 0 0 Q (F0 m 139 ls []) := by
                intro fu
                induction fu with
                | zero => intro r u hfu; exact absurd hfu (Nat.not_lt_zero _)
                | succ fu ih139 =>
                  intro r u hfu139 hri eu
                  intro H locs hP hD hS ls hl
                  refine lv_iload_n hx hb dX3_digest_139 rfl (lv_at hl 0 rfl) ?_
                  refine lv_aload_n hx hb dX3_digest_140 rfl (lv_at hl 2 rfl) ?_
                  refine va_get (D := D) (ci := 3) (v := .int (nI nt)) (C := RX3) (T := TX3) (N := 9) hx hb hts hiX3 hown hK.1 hP 0 rfl rfl 2 (by decide) (hts (.fieldLink RX3 29 "SledgeRaceModel" "teams" "I") (by decide +kernel)) (fun _ h9 => h9) (congrArg (fun z => some (Value.int z)) ht) dX3_digest_141 ?_
                  refine sp_ge (by omega) (by omega) (tgt := 166) hx hb dX3_digest_144 (by decide) (fun c144 => ?_) (fun c144 => ?_)
                  · skip
                    refine lv_lload_n hx hb dX3_digest_166 rfl (lv_at hl 1 rfl) ?_
                    refine sp_topl (show u = mDigest MF tv nt from by rw [eu, show r = nt from by omega]; rfl) ?_
                    subst hQ
                    have hP9 : va_P D vwCl [(mo, oM (upd MF 0 0) g0 t0 z0), (t0, aI cI 174 (tab tv))] H := hP
                    subst hAe
                    exact W.lret hx hb hr (fun t ht hW => ⟨⟨_, (), rfl, rfl, by show va_P D vwCl _ t.heap; rw [ht]; exact hP9⟩, hS.F ht⟩) hS.2.2 dX3_digest_167
                  · skip
                    refine lv_lload_n hx hb dX3_digest_147 rfl (lv_at hl 1 rfl) ?_
                    refine lv_ldc2 hx hb hown (hts (.constantLong RX3 139 (31)) (by decide +kernel)) dX3_digest_148 ?_
                    refine lv_lmul hx hb dX3_digest_151 ?_
                    refine lv_aload_n hx hb dX3_digest_152 rfl (lv_at hl 2 rfl) ?_
                    refine lv_iload_n hx hb dX3_digest_153 rfl (lv_at hl 0 rfl) ?_
                    refine sp_rV (rest := [.long (u * 31)]) (As := [.int (nI r)]) ⟨hx, hb, hml, hown, hts⟩ (mX3_teamAt l D cI cT mo g0 t0 z0 (upd MF 0 0) tv (nI r) nt hnt ht _ (mRank_at tv (show r < nt by omega)).choose_spec.1 (congrArg nI (mRank_at tv (show r < nt by omega)).choose_spec.2)) (cwV 1 hts gX3_digest_X3_teamAt rfl rfl rfl (by decide +kernel) ⟨Nat.le_of_ble_eq_true rfl, Nat.le_of_ble_eq_true rfl⟩) hK (sp_pick hP [0, 1] rfl) (ci := 3) rfl rfl rfl rfl hl.1 rfl (Nat.le_of_ble_eq_true rfl) dX3_digest_154 ⟨Nat.le_of_ble_eq_true rfl, Nat.le_of_ble_eq_true rfl⟩ ?_
                    refine lv_i2l (v := Int32.toInt64 (nI (mAt tv nt (nI r)))) hx hb dX3_digest_157 rfl ?_
                    refine lv_ladd hx hb dX3_digest_158 ?_
                    refine lv_lstore_n (lv' := [(1, .long ((u * 31) + (Int32.toInt64 (nI (mAt tv nt (nI r)))))), (3, .int (nI r)), (0, .ref mo)]) hx hb dX3_digest_159 rfl hl (by decide) rfl (fun ls hl => ?_)
                    refine lv_iinc (v := nI (r + 1)) (lv' := [(3, .int (nI (r + 1))), (1, .long ((u * 31) + (Int32.toInt64 (nI (mAt tv nt (nI r)))))), (0, .ref mo)]) hx hb dX3_digest_160 hl (k := 1) rfl ((nI_1 r)) (by decide) rfl (fun ls hl => ?_)
                    refine lv_goto (tgt := 139) hx hb dX3_digest_163 (by decide) ?_
                    exact ih139 (r + 1) ((u * 31) + (Int32.toInt64 (nI (mAt tv nt (nI r))))) (by omega) (by omega) (by rw [dgL, ← eu]) _ _ hP hD hS ls (lv_sub hl [0, 1, 2] rfl)
              exact loop139 _ 0 f (Nat.lt_succ_self _) (Nat.zero_le _) (by rw [ef, show t = nt from by omega]; rfl) _ _ hP hD hS ls (lv_sub hl [0, 1, 2] rfl)
            · skip
              refine lv_iconst (v := nI 0) hx hb dX3_digest_46 (by decide) ?_
              refine lv_istore (lv' := [(4, .int (nI 0)), (3, .int (nI t)), (1, .long f), (0, .ref mo)]) hx hb dX3_digest_47 hl (by decide) rfl (fun ls hl => ?_)
              have loop49 : ∀ (fu : Nat) (w : Nat) (y : Int64), (12 - w) < fu → (w ≤ 12) → (y = dgL (fun w => mToldT (tv t) (nI w)) (mDgs tv (dgL (fun w => mCount MF tv nt (nI w)) 461 6) t) w) → ∀ (H : Heap) (locs : List Loc), va_P D vwCl [(mo, oM (upd MF 0 0) g0 t0 z0), (t0, aI cI 174 (tab tv))] H → va_D A [(mo, oM (upd MF 0 0) g0 t0 z0), (t0, aI cI 174 (tab tv))] → va_S A s.heap H locs → ∀ (ls : Array Slot), lv_has ls 5 [(4, .int (nI w)), (3, .int (nI t)), (1, .long y), (0, .ref mo)] → W p l e rmX3_digest s m args below meth c H locs 0 0 Q (F0 m 49 ls []) := by
                intro fu
                induction fu with
                | zero => intro w y hfu; exact absurd hfu (Nat.not_lt_zero _)
                | succ fu ih49 =>
                  intro w y hfu49 hw9 ey
                  intro H locs hP hD hS ls hl
                  refine lv_iload hx hb dX3_digest_49 (lv_at hl 0 rfl) ?_
                  refine lv_bipush (v := nI 12) hx hb dX3_digest_51 (by decide) ?_
                  refine sp_ge (by omega) (by omega) (tgt := 77) hx hb dX3_digest_53 (by decide) (fun c53 => ?_) (fun c53 => ?_)
                  · skip
                    refine lv_iconst (v := nI 0) hx hb dX3_digest_77 (by decide) ?_
                    refine lv_istore (lv' := [(4, .int (nI 0)), (3, .int (nI t)), (1, .long y), (0, .ref mo)]) hx hb dX3_digest_78 hl (by decide) rfl (fun ls hl => ?_)
                    have loop80 : ∀ (fu : Nat) (k2 : Nat) (z : Int64), (mN (tv t) - k2) < fu → (k2 ≤ mN (tv t)) → (z = dgL (fun k => if mCar (tv t).2.2.1 (nI k) = true then -9999 else (tv t).2.1 k) (dgL (fun w => mToldT (tv t) (nI w)) (mDgs tv (dgL (fun w => mCount MF tv nt (nI w)) 461 6) t) 12) k2) → ∀ (H : Heap) (locs : List Loc), va_P D vwCl [(mo, oM (upd MF 0 0) g0 t0 z0), (t0, aI cI 174 (tab tv))] H → va_D A [(mo, oM (upd MF 0 0) g0 t0 z0), (t0, aI cI 174 (tab tv))] → va_S A s.heap H locs → ∀ (ls : Array Slot), lv_has ls 5 [(4, .int (nI k2)), (3, .int (nI t)), (1, .long z), (0, .ref mo)] → W p l e rmX3_digest s m args below meth c H locs 0 0 Q (F0 m 80 ls []) := by
                      intro fu
                      induction fu with
                      | zero => intro k2 z hfu; exact absurd hfu (Nat.not_lt_zero _)
                      | succ fu ih80 =>
                        intro k2 z hfu80 hk2 ez
                        intro H locs hP hD hS ls hl
                        have hok8 := (hok t (by omega)).n.1
                        refine lv_iload hx hb dX3_digest_80 (lv_at hl 0 rfl) ?_
                        refine lv_aload_n hx hb dX3_digest_82 rfl (lv_at hl 3 rfl) ?_
                        refine lv_iload_n hx hb dX3_digest_83 rfl (lv_at hl 1 rfl) ?_
                        refine lv_iconst (v := 2) hx hb dX3_digest_84 (by decide) ?_
                        refine sp_rV (rest := [.int (nI k2)]) (As := [.int (nI t), .int (nI 2)]) ⟨hx, hb, hml, hown, hts⟩ (mX3_get l D cI cT mo g0 t0 z0 (upd MF 0 0) tv t 2 (nI (mN (tv t))) (by omega) (by omega) ((hok t (by omega)).n.2)) (cwV 2 hts gX3_digest_X3_get rfl rfl rfl (by decide +kernel) ⟨Nat.le_of_ble_eq_true rfl, Nat.le_of_ble_eq_true rfl⟩) hK (sp_pick hP [0, 1] rfl) (ci := 3) rfl rfl rfl rfl hl.1 rfl (Nat.le_of_ble_eq_true rfl) dX3_digest_85 ⟨Nat.le_of_ble_eq_true rfl, Nat.le_of_ble_eq_true rfl⟩ ?_
                        refine sp_ge (by omega) (by omega) (tgt := 131) hx hb dX3_digest_88 (by decide) (fun c88 => ?_) (fun c88 => ?_)
                        · skip
                          refine lv_iinc (v := nI (t + 1)) (lv' := [(3, .int (nI (t + 1))), (4, .int (nI k2)), (1, .long z), (0, .ref mo)]) hx hb dX3_digest_131 hl (k := 1) rfl ((nI_1 t)) (by decide) rfl (fun ls hl => ?_)
                          refine lv_goto (tgt := 38) hx hb dX3_digest_134 (by decide) ?_
                          exact ih38 (t + 1) z (by omega) (by omega) (by rw [ez, show k2 = mN (tv t) from by omega]; rfl) _ _ hP hD hS ls (lv_sub hl [0, 2, 3] rfl)
                        · skip
                          refine lv_lload_n hx hb dX3_digest_91 rfl (lv_at hl 2 rfl) ?_
                          refine lv_ldc2 hx hb hown (hts (.constantLong RX3 139 (31)) (by decide +kernel)) dX3_digest_92 ?_
                          refine lv_lmul hx hb dX3_digest_95 ?_
                          refine lv_aload_n hx hb dX3_digest_96 rfl (lv_at hl 3 rfl) ?_
                          refine lv_iload_n hx hb dX3_digest_97 rfl (lv_at hl 1 rfl) ?_
                          refine lv_iload hx hb dX3_digest_98 (lv_at hl 0 rfl) ?_
                          refine sp_rV (rest := [.long (z * 31)]) (As := [.int (nI t), .int (nI k2)]) ⟨hx, hb, hml, hown, hts⟩ (mX3_isCarried l D cI cT mo g0 t0 z0 (upd MF 0 0) tv t (by omega) ((tv t).1) ((tv t).2.1) ((tv t).2.2.1) ((tv t).2.2.2) (rfl) (nI k2)) (cwV 2 hts gX3_digest_X3_isCarried rfl rfl rfl (by decide +kernel) ⟨Nat.le_of_ble_eq_true rfl, Nat.le_of_ble_eq_true rfl⟩) hK (sp_pick hP [0, 1] rfl) (ci := 3) rfl rfl rfl rfl hl.1 rfl (Nat.le_of_ble_eq_true rfl) dX3_digest_100 ⟨Nat.le_of_ble_eq_true rfl, Nat.le_of_ble_eq_true rfl⟩ ?_
                          refine sp_if_eq (tgt := 112) hx hb dX3_digest_103 (by decide) (fun c103 => ?_) (fun c103 => ?_)
                          · skip
                            refine lv_aload_n hx hb dX3_digest_112 rfl (lv_at hl 3 rfl) ?_
                            refine lv_iload_n hx hb dX3_digest_113 rfl (lv_at hl 1 rfl) ?_
                            refine lv_bipush (v := nI 15) hx hb dX3_digest_114 (by decide) ?_
                            refine lv_iload hx hb dX3_digest_116 (lv_at hl 0 rfl) ?_
                            refine lv_iadd hx hb dX3_digest_118 ?_
                            refine sp_top (nI_add 15 k2 : (nI 15) + (nI k2) = nI (15 + k2)) ?_
                            refine sp_rV (rest := [.long (z * 31)]) (As := [.int (nI t), .int (nI (15 + k2))]) ⟨hx, hb, hml, hown, hts⟩ (mX3_get l D cI cT mo g0 t0 z0 (upd MF 0 0) tv t (15 + k2) (((tv t).2.1) k2) (by omega) (by omega) (row_P _ (by omega))) (cwV 2 hts gX3_digest_X3_get rfl rfl rfl (by decide +kernel) ⟨Nat.le_of_ble_eq_true rfl, Nat.le_of_ble_eq_true rfl⟩) hK (sp_pick hP [0, 1] rfl) (ci := 3) rfl rfl rfl rfl hl.1 rfl (Nat.le_of_ble_eq_true rfl) dX3_digest_119 ⟨Nat.le_of_ble_eq_true rfl, Nat.le_of_ble_eq_true rfl⟩ ?_
                            refine lv_i2l (v := Int32.toInt64 (((tv t).2.1) k2)) hx hb dX3_digest_122 rfl ?_
                            refine lv_ladd hx hb dX3_digest_123 ?_
                            refine lv_lstore_n (lv' := [(1, .long ((z * 31) + (Int32.toInt64 (((tv t).2.1) k2)))), (4, .int (nI k2)), (3, .int (nI t)), (0, .ref mo)]) hx hb dX3_digest_124 rfl hl (by decide) rfl (fun ls hl => ?_)
                            refine lv_iinc (v := nI (k2 + 1)) (lv' := [(4, .int (nI (k2 + 1))), (1, .long ((z * 31) + (Int32.toInt64 (((tv t).2.1) k2)))), (3, .int (nI t)), (0, .ref mo)]) hx hb dX3_digest_125 hl (k := 1) rfl ((nI_1 k2)) (by decide) rfl (fun ls hl => ?_)
                            refine lv_goto (tgt := 80) hx hb dX3_digest_128 (by decide) ?_
                            exact ih80 (k2 + 1) ((z * 31) + (Int32.toInt64 (((tv t).2.1) k2))) (by omega) (by omega) (by rw [dgL, ← ez]; simp only [c103, Bool.false_eq_true, if_false]) _ _ hP hD hS ls (lv_sub hl [0, 2, 1, 3] rfl)
                          · skip
                            refine lv_sipush (v := (-9999)) hx hb dX3_digest_106 (by decide) ?_
                            refine lv_goto (tgt := 122) hx hb dX3_digest_109 (by decide) ?_
                            refine lv_i2l (v := Int32.toInt64 (-9999)) hx hb dX3_digest_122 rfl ?_
                            refine lv_ladd hx hb dX3_digest_123 ?_
                            refine lv_lstore_n (lv' := [(1, .long ((z * 31) + (Int32.toInt64 (-9999)))), (4, .int (nI k2)), (3, .int (nI t)), (0, .ref mo)]) hx hb dX3_digest_124 rfl hl (by decide) rfl (fun ls hl => ?_)
                            refine lv_iinc (v := nI (k2 + 1)) (lv' := [(4, .int (nI (k2 + 1))), (1, .long ((z * 31) + (Int32.toInt64 (-9999)))), (3, .int (nI t)), (0, .ref mo)]) hx hb dX3_digest_125 hl (k := 1) rfl ((nI_1 k2)) (by decide) rfl (fun ls hl => ?_)
                            refine lv_goto (tgt := 80) hx hb dX3_digest_128 (by decide) ?_
                            exact ih80 (k2 + 1) ((z * 31) + (Int32.toInt64 (-9999))) (by omega) (by omega) (by rw [dgL, ← ez]; simp only [if_pos c103]) _ _ hP hD hS ls (lv_sub hl [0, 2, 1, 3] rfl)
                    exact loop80 _ 0 y (Nat.lt_succ_self _) (Nat.zero_le _) (by rw [ey, show w = 12 from by omega]; rfl) _ _ hP hD hS ls (lv_sub hl [0, 1, 2, 3] rfl)
                  · skip
                    refine lv_lload_n hx hb dX3_digest_56 rfl (lv_at hl 2 rfl) ?_
                    refine lv_ldc2 hx hb hown (hts (.constantLong RX3 139 (31)) (by decide +kernel)) dX3_digest_57 ?_
                    refine lv_lmul hx hb dX3_digest_60 ?_
                    refine lv_aload_n hx hb dX3_digest_61 rfl (lv_at hl 3 rfl) ?_
                    refine lv_iload_n hx hb dX3_digest_62 rfl (lv_at hl 1 rfl) ?_
                    refine lv_iload hx hb dX3_digest_63 (lv_at hl 0 rfl) ?_
                    refine sp_rV (rest := [.long (y * 31)]) (As := [.int (nI t), .int (nI w)]) ⟨hx, hb, hml, hown, hts⟩ (mX3_teamTold l D cI cT mo g0 t0 z0 (upd MF 0 0) tv t (by omega) (tv t).1 (tv t).2.1 (tv t).2.2.1 (tv t).2.2.2 rfl (nI w) (mN (tv t)) (hok t (by omega)).n.1 (hok t (by omega)).n.2) (cwV 2 hts gX3_digest_X3_teamTold rfl rfl rfl (by decide +kernel) ⟨Nat.le_of_ble_eq_true rfl, Nat.le_of_ble_eq_true rfl⟩) hK (sp_pick hP [0, 1] rfl) (ci := 3) rfl rfl rfl rfl hl.1 rfl (Nat.le_of_ble_eq_true rfl) dX3_digest_65 ⟨Nat.le_of_ble_eq_true rfl, Nat.le_of_ble_eq_true rfl⟩ ?_
                    refine sp_top (show mTold (tv t).1 (tv t).2.1 (tv t).2.2.1 (mN (tv t)) (nI w) = mToldT (tv t) (nI w) from rfl) ?_
                    refine lv_i2l (v := Int32.toInt64 (mToldT (tv t) (nI w))) hx hb dX3_digest_68 rfl ?_
                    refine lv_ladd hx hb dX3_digest_69 ?_
                    refine lv_lstore_n (lv' := [(1, .long ((y * 31) + (Int32.toInt64 (mToldT (tv t) (nI w))))), (4, .int (nI w)), (3, .int (nI t)), (0, .ref mo)]) hx hb dX3_digest_70 rfl hl (by decide) rfl (fun ls hl => ?_)
                    refine lv_iinc (v := nI (w + 1)) (lv' := [(4, .int (nI (w + 1))), (1, .long ((y * 31) + (Int32.toInt64 (mToldT (tv t) (nI w))))), (3, .int (nI t)), (0, .ref mo)]) hx hb dX3_digest_71 hl (k := 1) rfl ((nI_1 w)) (by decide) rfl (fun ls hl => ?_)
                    refine lv_goto (tgt := 49) hx hb dX3_digest_74 (by decide) ?_
                    exact ih49 (w + 1) ((y * 31) + (Int32.toInt64 (mToldT (tv t) (nI w)))) (by omega) (by omega) (by rw [dgL, ← ey]) _ _ hP hD hS ls (lv_sub hl [0, 2, 1, 3] rfl)
              exact loop49 _ 0 f (Nat.lt_succ_self _) (Nat.zero_le _) (ef) _ _ hP hD hS ls (lv_sub hl [0, 1, 2, 3] rfl)
        exact loop38 _ 0 d (Nat.lt_succ_self _) (Nat.zero_le _) (by rw [ed, show k = 6 from by omega]; rfl) _ _ hP hD hS ls (lv_sub hl [0, 1, 2] rfl)
      · skip
        refine lv_lload_n hx hb dX3_digest_17 rfl (lv_at hl 1 rfl) ?_
        refine lv_ldc2 hx hb hown (hts (.constantLong RX3 139 (31)) (by decide +kernel)) dX3_digest_18 ?_
        refine lv_lmul hx hb dX3_digest_21 ?_
        refine lv_aload_n hx hb dX3_digest_22 rfl (lv_at hl 2 rfl) ?_
        refine lv_iload_n hx hb dX3_digest_23 rfl (lv_at hl 0 rfl) ?_
        refine sp_rV (rest := [.long (d * 31)]) (As := [.int (nI k)]) ⟨hx, hb, hml, hown, hts⟩ (mX3_counted l D cI cT mo g0 t0 z0 (upd MF 0 0) tv (nI k) nt hnt ht) (cwV 1 hts gX3_digest_X3_counted rfl rfl rfl (by decide +kernel) ⟨Nat.le_of_ble_eq_true rfl, Nat.le_of_ble_eq_true rfl⟩) hK (sp_pick hP [0, 1] rfl) (ci := 3) rfl rfl rfl rfl hl.1 rfl (Nat.le_of_ble_eq_true rfl) dX3_digest_24 ⟨Nat.le_of_ble_eq_true rfl, Nat.le_of_ble_eq_true rfl⟩ ?_
        refine sp_top (show mCount (upd MF 0 0) tv nt (nI k) = mCount MF tv nt (nI k) from rfl) ?_
        refine lv_i2l (v := Int32.toInt64 (mCount MF tv nt (nI k))) hx hb dX3_digest_27 rfl ?_
        refine lv_ladd hx hb dX3_digest_28 ?_
        refine lv_lstore_n (lv' := [(1, .long ((d * 31) + (Int32.toInt64 (mCount MF tv nt (nI k))))), (3, .int (nI k)), (0, .ref mo)]) hx hb dX3_digest_29 rfl hl (by decide) rfl (fun ls hl => ?_)
        refine lv_iinc (v := nI (k + 1)) (lv' := [(3, .int (nI (k + 1))), (1, .long ((d * 31) + (Int32.toInt64 (mCount MF tv nt (nI k))))), (0, .ref mo)]) hx hb dX3_digest_30 hl (k := 1) rfl ((nI_1 k)) (by decide) rfl (fun ls hl => ?_)
        refine lv_goto (tgt := 11) hx hb dX3_digest_33 (by decide) ?_
        exact ih11 (k + 1) ((d * 31) + (Int32.toInt64 (mCount MF tv nt (nI k)))) (by omega) (by omega) (by rw [dgL, ← ed]) _ _ hP hD hS ls (lv_sub hl [0, 1, 2] rfl)
  exact loop11 _ 0 461 (Nat.lt_succ_self _) (Nat.zero_le _) (rfl) _ _ hP hD hS ls (lv_sub hl [0, 1, 2] rfl)

abbrev rmX3_mean : Room := { frames := 1, cells := 0, slots := 0, locals := 22 }
set_option maxHeartbeats 4000000 in
set_option maxRecDepth 100000 in
/-- mean -/
theorem mX3_mean (l : Launch) (D : va_G) (cI cT : ClassId) (mo g0 t0 z0 : Nat) (MF : Nat → Int32) (tv : Nat → TV) (nt : Nat) (hnt : nt ≤ 6) (ht : MF 2 = nI nt) : MetDD l D cI cT yX3_mean wsX3_mean rmX3_mean [.ref mo] [(mo, oM MF g0 t0 z0), (t0, aI cI 174 (tab tv))] [] [(mo, oM (upd MF 0 0) g0 t0 z0), (t0, aI cI 174 (tab tv))] (meanP (mSum tv nt) nt) := by
  refine MetD.ofW (cc := cX3_mean) (maxL := 3) (ret := (some .double)) (by decide) rfl ?_
  intro p e s m args below meth c s₁ B hml hv hd0
  obtain ⟨hargs, hP, hR0, hK, hN⟩ := hv
  have hx := B.exec
  have hb := B.bytes
  have hr := B.returns
  have hts := atoms_spec (ws := wsX3_mean) B.pre
  have hts := dr_words hts s.drawn
  have hown : s.vm.findClass RX3 = some m.cls := findClass_of_methodNamed B.named
  have hlocks := B.notSynchronized
  have hiX3 : ∀ w ∈ u_ws RX3 TX3 9, w ∈ wsX3_mean := by decide +kernel
  have he : entryFrame m args 3 = F0 m 0 ((lg_sl [.ref mo] ++ List.replicate (3 - (lg_sl [.ref mo]).length) Slot.unset).toArray) [] := by rw [hargs]; exact lg_entry_eq m _ _
  rw [he]
  change W p l e rmX3_mean (s.setDrawn s.drawn) m args below meth c s.heap [] 0 0 (MQD lw_cs below (va_Qd (S := Unit) (fun z _ => meanP (mSum tv nt) nt z) (fun _ t => va_P D vwCl [(mo, oM (upd MF 0 0) g0 t0 z0), (t0, aI cI 174 (tab tv))] t.heap) (fr (List.map Prod.fst [(mo, oM MF g0 t0 z0), (t0, aI cI 174 (tab tv))]))) args s 0 0 (fr (List.map Prod.fst [(mo, oM MF g0 t0 z0), (t0, aI cI 174 (tab tv))]))) _
  obtain ⟨Q, hQ⟩ : ∃ Q, Q = MQD lw_cs below (va_Qd (S := Unit) (fun z _ => meanP (mSum tv nt) nt z) (fun _ t => va_P D vwCl [(mo, oM (upd MF 0 0) g0 t0 z0), (t0, aI cI 174 (tab tv))] t.heap) (fr (List.map Prod.fst [(mo, oM MF g0 t0 z0), (t0, aI cI 174 (tab tv))]))) args s 0 0 (fr (List.map Prod.fst [(mo, oM MF g0 t0 z0), (t0, aI cI 174 (tab tv))])) := ⟨_, rfl⟩
  rw [← hQ]
  have hl := lv_entry [.ref mo] (n := 3) (Nat.le_of_ble_eq_true rfl)
  generalize (lg_sl [.ref mo] ++ List.replicate (3 - (lg_sl [.ref mo]).length) Slot.unset).toArray = ls at hl ⊢
  have hl : lv_has ls 3 [(0, .ref mo)] := hl
  obtain ⟨A, hAe⟩ : ∃ A, A = (fr (List.map Prod.fst [(mo, oM MF g0 t0 z0), (t0, aI cI 174 (tab tv))])) := ⟨_, rfl⟩
  have hA0 : ∀ q ∈ List.map Prod.fst [(mo, oM MF g0 t0 z0), (t0, aI cI 174 (tab tv))], A q := by rw [hAe]; exact fun q h => h
  have hD : va_D A [(mo, oM MF g0 t0 z0), (t0, aI cI 174 (tab tv))] := sp_D (List.nodup_append.mp (show (([(mo, oM MF g0 t0 z0), (t0, aI cI 174 (tab tv))] : va_W).map Prod.fst ++ ([] : va_W).map Prod.fst).Nodup by rw [← List.map_append]; exact hN)).1 hA0
  have hN : (List.map Prod.fst ([(mo, oM MF g0 t0 z0), (t0, aI cI 174 (tab tv))] ++ []) : List Nat).Nodup := hN
  have hS : va_S A s.heap s.heap [] := va_S.rf
  obtain ⟨H, hH0⟩ : ∃ H, H = s.heap := ⟨_, rfl⟩
  obtain ⟨locs, hlo⟩ : ∃ L : List Loc, L = [] := ⟨_, rfl⟩
  have hP : va_P D vwCl [(mo, oM MF g0 t0 z0), (t0, aI cI 174 (tab tv))] H := by rw [hH0]; exact hP
  have hS : va_S A s.heap H locs := by rw [hH0, hlo]; exact hS
  rw [show W p l e rmX3_mean (s.setDrawn s.drawn) m args below meth c s.heap [] 0 0 Q (F0 m 0 ls []) = W p l e rmX3_mean (s.setDrawn s.drawn) m args below meth c H locs 0 0 Q (F0 m 0 ls []) by rw [hH0, hlo]]
  clear hH0 hlo
  refine lv_aload_n hx hb dX3_mean_0 rfl (lv_at hl 0 rfl) ?_
  refine lv_iconst (v := 0) hx hb dX3_mean_1 (by decide) ?_
  refine va_put (D := D) (ci := 3) (v := .int 0) (ty := .int) (C := RX3) (T := TX3) (N := 9) hx hb hts hiX3 tyX3 tyX3_ok nmX3 hown hK.1 hP hD hS 0 rfl rfl 0 (by decide) (hts (.fieldLink RX3 26 "SledgeRaceModel" "thrown" "I") (by decide +kernel)) (fun _ h9 => h9) rfl (by decide +kernel) rfl rfl (Nat.le_of_ble_eq_true rfl) dX3_mean_2 (fun H locs hP hD hS => ?_)
  have hP : va_P D vwCl [(mo, oM (upd MF 0 0) g0 t0 z0), (t0, aI cI 174 (tab tv))] H := hP
  have hD : va_D A [(mo, oM (upd MF 0 0) g0 t0 z0), (t0, aI cI 174 (tab tv))] := hD
  refine lv_iconst (v := 0) hx hb dX3_mean_5 (by decide) ?_
  refine lv_istore_n (lv' := [(1, .int 0), (0, .ref mo)]) hx hb dX3_mean_6 rfl hl (by decide) rfl (fun ls hl => ?_)
  refine lv_iconst (v := nI 0) hx hb dX3_mean_7 (by decide) ?_
  refine lv_istore_n (lv' := [(2, .int (nI 0)), (1, .int 0), (0, .ref mo)]) hx hb dX3_mean_8 rfl hl (by decide) rfl (fun ls hl => ?_)
  have loop9 : ∀ (fu : Nat) (t : Nat) (sm : Int32), (nt - t) < fu → (t ≤ nt) → (sm = mSum tv t) → ∀ (H : Heap) (locs : List Loc), va_P D vwCl [(mo, oM (upd MF 0 0) g0 t0 z0), (t0, aI cI 174 (tab tv))] H → va_D A [(mo, oM (upd MF 0 0) g0 t0 z0), (t0, aI cI 174 (tab tv))] → va_S A s.heap H locs → ∀ (ls : Array Slot), lv_has ls 3 [(2, .int (nI t)), (1, .int sm), (0, .ref mo)] → W p l e rmX3_mean (s.setDrawn s.drawn) m args below meth c H locs 0 0 Q (F0 m 9 ls []) := by
    intro fu
    induction fu with
    | zero => intro t sm hfu; exact absurd hfu (Nat.not_lt_zero _)
    | succ fu ih9 =>
      intro t sm hfu9 hti es
      intro H locs hP hD hS ls hl
      refine lv_iload_n hx hb dX3_mean_9 rfl (lv_at hl 0 rfl) ?_
      refine lv_aload_n hx hb dX3_mean_10 rfl (lv_at hl 2 rfl) ?_
      refine va_get (D := D) (ci := 3) (v := .int (nI nt)) (C := RX3) (T := TX3) (N := 9) hx hb hts hiX3 hown hK.1 hP 0 rfl rfl 2 (by decide) (hts (.fieldLink RX3 29 "SledgeRaceModel" "teams" "I") (by decide +kernel)) (fun _ h9 => h9) (congrArg (fun z => some (Value.int z)) ht) dX3_mean_11 ?_
      refine sp_ge (by omega) (by omega) (tgt := 33) hx hb dX3_mean_14 (by decide) (fun c14 => ?_) (fun c14 => ?_)
      · skip
        refine lv_aload_n hx hb dX3_mean_33 rfl (lv_at hl 2 rfl) ?_
        refine va_get (D := D) (ci := 3) (v := .int (nI nt)) (C := RX3) (T := TX3) (N := 9) hx hb hts hiX3 hown hK.1 hP 0 rfl rfl 2 (by decide) (hts (.fieldLink RX3 29 "SledgeRaceModel" "teams" "I") (by decide +kernel)) (fun _ h9 => h9) (congrArg (fun z => some (Value.int z)) ht) dX3_mean_34 ?_
        refine lv_if_ne (tgt := 44) hx hb dX3_mean_37 (by decide) (fun c37 => ?_) (fun c37 => ?_)
        · skip
          refine lv_iload_n hx hb dX3_mean_44 rfl (lv_at hl 1 rfl) ?_
          refine lv_i2d hx hb dX3_mean_45 ?_
          refine lv_aload_n hx hb dX3_mean_46 rfl (lv_at hl 2 rfl) ?_
          refine va_get (D := D) (ci := 3) (v := .int (nI nt)) (C := RX3) (T := TX3) (N := 9) hx hb hts hiX3 hown hK.1 hP 0 rfl rfl 2 (by decide) (hts (.fieldLink RX3 29 "SledgeRaceModel" "teams" "I") (by decide +kernel)) (fun _ h9 => h9) (congrArg (fun z => some (Value.int z)) ht) dX3_mean_47 ?_
          refine lv_i2d hx hb dX3_mean_50 ?_
          refine lv_ddiv_any hd0 lw_bits hx hb dX3_mean_51 (fun rd dd hal hd0 => ?_)
          have hv9 : meanP (mSum tv nt) nt rd := ⟨fun q => absurd (by rw [q]; rfl) c37, fun _ => by rw [show mSum tv nt = sm from by rw [es, show t = nt from by omega]]; exact hal⟩
          have hP9 : va_P D vwCl [(mo, oM (upd MF 0 0) g0 t0 z0), (t0, aI cI 174 (tab tv))] H := hP
          subst hQ
          subst hAe
          refine W.endD hd0 ?_
          exact W.dret hx hb hr (fun t ht hW => ⟨⟨_, (), rfl, hv9, by show va_P D vwCl _ t.heap; rw [ht]; exact hP9⟩, hS.F ht⟩) hS.2.2 dX3_mean_52
        · skip
          refine lv_dconst0 hx hb dX3_mean_40 ?_
          refine lv_goto (tgt := 52) hx hb dX3_mean_41 (by decide) ?_
          have hv9 : meanP (mSum tv nt) nt FP.dconst0 := ⟨fun _ => rfl, fun q => absurd c37 (nI_ne0 (by omega) (by omega))⟩
          have hP9 : va_P D vwCl [(mo, oM (upd MF 0 0) g0 t0 z0), (t0, aI cI 174 (tab tv))] H := hP
          subst hQ
          subst hAe
          refine W.endD hd0 ?_
          exact W.dret hx hb hr (fun t ht hW => ⟨⟨_, (), rfl, hv9, by show va_P D vwCl _ t.heap; rw [ht]; exact hP9⟩, hS.F ht⟩) hS.2.2 dX3_mean_52
      · skip
        refine lv_iload_n hx hb dX3_mean_17 rfl (lv_at hl 1 rfl) ?_
        refine lv_aload_n hx hb dX3_mean_18 rfl (lv_at hl 2 rfl) ?_
        refine lv_iload_n hx hb dX3_mean_19 rfl (lv_at hl 0 rfl) ?_
        refine lv_bipush (v := 9) hx hb dX3_mean_20 (by decide) ?_
        refine sp_rV (rest := [.int sm]) (As := [.int (nI t), .int (nI 9)]) ⟨hx, hb, hml, hown, hts⟩ (mX3_get l D cI cT mo g0 t0 z0 (upd MF 0 0) tv t 9 (((tv t).1) 9) (by omega) (by omega) (rfl)) (cwV 2 hts gX3_mean_X3_get rfl rfl rfl (by decide +kernel) ⟨Nat.le_of_ble_eq_true rfl, Nat.le_of_ble_eq_true rfl⟩) hK (sp_pick hP [0, 1] rfl) (ci := 3) rfl rfl rfl rfl hl.1 rfl (Nat.le_of_ble_eq_true rfl) dX3_mean_22 ⟨Nat.le_of_ble_eq_true rfl, Nat.le_of_ble_eq_true rfl⟩ ?_
        refine lv_iadd hx hb dX3_mean_25 ?_
        refine lv_istore_n (lv' := [(1, .int (sm + (((tv t).1) 9))), (2, .int (nI t)), (0, .ref mo)]) hx hb dX3_mean_26 rfl hl (by decide) rfl (fun ls hl => ?_)
        refine lv_iinc (v := nI (t + 1)) (lv' := [(2, .int (nI (t + 1))), (1, .int (sm + (((tv t).1) 9))), (0, .ref mo)]) hx hb dX3_mean_27 hl (k := 1) rfl ((nI_1 t)) (by decide) rfl (fun ls hl => ?_)
        refine lv_goto (tgt := 9) hx hb dX3_mean_30 (by decide) ?_
        exact ih9 (t + 1) (sm + (((tv t).1) 9)) (by omega) (by omega) (by rw [mSum, ← es]) _ _ hP hD hS ls (lv_sub hl [0, 1, 2] rfl)
  exact loop9 _ 0 0 (Nat.lt_succ_self _) (Nat.zero_le _) (rfl) _ _ hP hD hS ls (lv_sub hl [0, 1, 2] rfl)
