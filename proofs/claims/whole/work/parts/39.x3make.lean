abbrev rmX3_lay : Room := { frames := 1, cells := 1, slots := 3, locals := 22 }
set_option maxHeartbeats 4000000 in
set_option maxRecDepth 100000 in
/-- lay -/
theorem mX3_lay (l : Launch) (D : va_G) (cI cT : ClassId) (mo g0 t0 z0 : Nat) (MF : Nat → Int32) (sz : Nat) (g : Nat → Int32) (x a b : Int32) (ns : Nat) (hns0 : 0 < ns) (hns : ns ≤ 12) (h5 : MF 5 = nI ns) : MetIA l D cI cT yX3_lay wsX3_lay rmX3_lay [.ref mo, .int x, .int a, .int b] [(mo, oM MF g0 t0 z0), (g0, aI cI 39 g)] [] [(mo, oM (mLay x a b MF g ns).2.1 g0 t0 z0), (g0, aI cI 39 (mLay x a b MF g ns).2.2)] ((mLay x a b MF g ns).1) 1 3 sz := by
  refine Met.ofW (cc := cX3_lay) (maxL := 7) (ret := (some .int)) (by decide) rfl ?_
  intro p e s m args below meth c s₁ B hml hv
  obtain ⟨hargs, hsz, hP, hR0, hK, hN⟩ := hv
  have hx := B.exec
  have hb := B.bytes
  have hr := B.returns
  have hts := atoms_spec (ws := wsX3_lay) B.pre
  have hown : s.vm.findClass RX3 = some m.cls := findClass_of_methodNamed B.named
  have hlocks := B.notSynchronized
  have hiX3 : ∀ w ∈ u_ws RX3 TX3 9, w ∈ wsX3_lay := by decide +kernel
  have he : entryFrame m args 7 = F0 m 0 ((lg_sl [.ref mo, .int x, .int a, .int b] ++ List.replicate (7 - (lg_sl [.ref mo, .int x, .int a, .int b]).length) Slot.unset).toArray) [] := by rw [hargs]; exact lg_entry_eq m _ _
  rw [he]
  change W p l e rmX3_lay s m args below meth c s.heap [] 0 0 (MQ below (va_Qi (S := Unit) (fun z _ => z = (mLay x a b MF g ns).1) (fun _ t => va_P D vwCl [(mo, oM (mLay x a b MF g ns).2.1 g0 t0 z0), (g0, aI cI 39 (mLay x a b MF g ns).2.2)] t.heap) (frA (List.map Prod.fst [(mo, oM MF g0 t0 z0), (g0, aI cI 39 g)]) sz)) args s 1 3 (frA (List.map Prod.fst [(mo, oM MF g0 t0 z0), (g0, aI cI 39 g)]) sz)) _
  obtain ⟨Q, hQ⟩ : ∃ Q, Q = MQ below (va_Qi (S := Unit) (fun z _ => z = (mLay x a b MF g ns).1) (fun _ t => va_P D vwCl [(mo, oM (mLay x a b MF g ns).2.1 g0 t0 z0), (g0, aI cI 39 (mLay x a b MF g ns).2.2)] t.heap) (frA (List.map Prod.fst [(mo, oM MF g0 t0 z0), (g0, aI cI 39 g)]) sz)) args s 1 3 (frA (List.map Prod.fst [(mo, oM MF g0 t0 z0), (g0, aI cI 39 g)]) sz) := ⟨_, rfl⟩
  rw [← hQ]
  have hl := lv_entry [.ref mo, .int x, .int a, .int b] (n := 7) (Nat.le_of_ble_eq_true rfl)
  generalize (lg_sl [.ref mo, .int x, .int a, .int b] ++ List.replicate (7 - (lg_sl [.ref mo, .int x, .int a, .int b]).length) Slot.unset).toArray = ls at hl ⊢
  have hl : lv_has ls 7 [(0, .ref mo), (1, .int x), (2, .int a), (3, .int b)] := hl
  obtain ⟨A, hAe⟩ : ∃ A, A = (frA (List.map Prod.fst [(mo, oM MF g0 t0 z0), (g0, aI cI 39 g)]) sz) := ⟨_, rfl⟩
  have hA0 : ∀ q ∈ List.map Prod.fst [(mo, oM MF g0 t0 z0), (g0, aI cI 39 g)], A q := by rw [hAe]; exact fun q h => Or.inl h
  subst hsz
  have hA : ∀ q : Nat, s.heap.size ≤ q → A q := by rw [hAe]; exact fun q h => Or.inr h
  have hD : va_D A [(mo, oM MF g0 t0 z0), (g0, aI cI 39 g)] := sp_D (List.nodup_append.mp (show (([(mo, oM MF g0 t0 z0), (g0, aI cI 39 g)] : va_W).map Prod.fst ++ ([] : va_W).map Prod.fst).Nodup by rw [← List.map_append]; exact hN)).1 hA0
  have hN : (List.map Prod.fst ([(mo, oM MF g0 t0 z0), (g0, aI cI 39 g)] ++ []) : List Nat).Nodup := hN
  have hS : va_S A s.heap s.heap [] := va_S.rf
  obtain ⟨H, hH0⟩ : ∃ H, H = s.heap := ⟨_, rfl⟩
  obtain ⟨locs, hlo⟩ : ∃ L : List Loc, L = [] := ⟨_, rfl⟩
  have hP : va_P D vwCl [(mo, oM MF g0 t0 z0), (g0, aI cI 39 g)] H := by rw [hH0]; exact hP
  have hS : va_S A s.heap H locs := by rw [hH0, hlo]; exact hS
  rw [show W p l e rmX3_lay s m args below meth c s.heap [] 0 0 Q (F0 m 0 ls []) = W p l e rmX3_lay s m args below meth c H locs 0 0 Q (F0 m 0 ls []) by rw [hH0, hlo]]
  clear hH0 hlo
  refine lv_aload_n hx hb dX3_lay_0 rfl (lv_at hl 0 rfl) ?_
  refine lv_iconst (v := 0) hx hb dX3_lay_1 (by decide) ?_
  refine va_put (D := D) (ci := 3) (v := .int 0) (ty := .int) (C := RX3) (T := TX3) (N := 9) hx hb hts hiX3 tyX3 tyX3_ok nmX3 hown hK.1 hP hD hS 0 rfl rfl 0 (by decide) (hts (.fieldLink RX3 26 "SledgeRaceModel" "thrown" "I") (by decide +kernel)) (fun _ h9 => h9) rfl (by decide +kernel) rfl rfl (Nat.le_of_ble_eq_true rfl) dX3_lay_2 (fun H locs hP hD hS => ?_)
  have hP : va_P D vwCl [(mo, oM (upd MF 0 0) g0 t0 z0), (g0, aI cI 39 g)] H := hP
  have hD : va_D A [(mo, oM (upd MF 0 0) g0 t0 z0), (g0, aI cI 39 g)] := hD
  refine lv_iload_n hx hb dX3_lay_5 rfl (lv_at hl 1 rfl) ?_
  refine lv_iconst (v := 0) hx hb dX3_lay_6 (by decide) ?_
  refine lv_sipush (v := 1999) hx hb dX3_lay_7 (by decide) ?_
  refine sp_rS (rest := []) (As := [.int x, .int 0, .int 1999]) ⟨hx, hb, hml, hown, hts⟩ (mX3_isIn l D cI cT x 0 1999) (va_cwS 3 hts gX3_lay_X3_isIn rfl rfl rfl (by decide +kernel) ⟨Nat.le_of_ble_eq_true rfl, Nat.le_of_ble_eq_true rfl⟩) hK (show va_P D vwCl [] _ from fun k q h => by simp at h) rfl hl.1 rfl (Nat.le_of_ble_eq_true rfl) dX3_lay_10 ⟨Nat.le_of_ble_eq_true rfl, Nat.le_of_ble_eq_true rfl⟩ ?_
  refine sp_if_eq (tgt := 36) hx hb dX3_lay_13 (by decide) (fun c13 => ?_) (fun c13 => ?_)
  · skip
    refine lv_aload_n hx hb dX3_lay_36 rfl (lv_at hl 0 rfl) ?_
    refine lv_iconst (v := 1) hx hb dX3_lay_37 (by decide) ?_
    refine sp_vI (rest := []) (As := [.int 1]) (W1 := [(mo, oM (upd (upd MF 0 0) 0 1) g0 t0 z0), (g0, aI cI 39 g)]) ⟨hx, hb, hml, hown, hts⟩ (mX3_fail l D cI cT mo g0 t0 z0 (upd MF 0 0) 1) (cwV 1 hts gX3_lay_X3_fail rfl rfl rfl (by decide +kernel) ⟨Nat.le_of_ble_eq_true rfl, Nat.le_of_ble_eq_true rfl⟩) hK hP hD hS [0] rfl (fun k q h => by simp at h) (sp_nsub hN [0] (by decide) rfl) rfl rfl rfl (ci := 3) rfl rfl rfl rfl hl.1 rfl (Nat.le_of_ble_eq_true rfl) dX3_lay_38 ⟨Nat.le_of_ble_eq_true rfl, Nat.le_of_ble_eq_true rfl⟩ (fun H locs hP hD hS => ?_)
    have eq9 : (mLay x a b MF g ns) = (0, upd MF 0 1, g) := by unfold mLay; rw [if_neg (by simp [c13])]
    refine sp_top (show 0 = (mLay x a b MF g ns).1 from by rw [eq9]) ?_
    refine W.widen (k := 1) (n := 3) (Nat.zero_le _) (Nat.zero_le _) ?_
    subst hQ
    have hP9 : va_P D vwCl [(mo, oM (mLay x a b MF g ns).2.1 g0 t0 z0), (g0, aI cI 39 (mLay x a b MF g ns).2.2)] H := by rw [eq9]; exact hP.sub [0, 1] rfl
    subst hAe
    exact W.iret hx hb hr (fun t ht hW => ⟨⟨_, (), rfl, rfl, by show va_P D vwCl _ t.heap; rw [ht]; exact hP9⟩, hS.F ht⟩) hS.2.2 dX3_lay_41
  · skip
    refine lv_iload_n hx hb dX3_lay_16 rfl (lv_at hl 2 rfl) ?_
    refine lv_bipush (v := (-5)) hx hb dX3_lay_17 (by decide) ?_
    refine lv_iconst (v := 5) hx hb dX3_lay_19 (by decide) ?_
    refine sp_rS (rest := []) (As := [.int a, .int (-5), .int 5]) ⟨hx, hb, hml, hown, hts⟩ (mX3_isIn l D cI cT a (-5) 5) (va_cwS 3 hts gX3_lay_X3_isIn rfl rfl rfl (by decide +kernel) ⟨Nat.le_of_ble_eq_true rfl, Nat.le_of_ble_eq_true rfl⟩) hK (show va_P D vwCl [] _ from fun k q h => by simp at h) rfl hl.1 rfl (Nat.le_of_ble_eq_true rfl) dX3_lay_20 ⟨Nat.le_of_ble_eq_true rfl, Nat.le_of_ble_eq_true rfl⟩ ?_
    refine sp_if_eq (tgt := 36) hx hb dX3_lay_23 (by decide) (fun c23 => ?_) (fun c23 => ?_)
    · skip
      refine lv_aload_n hx hb dX3_lay_36 rfl (lv_at hl 0 rfl) ?_
      refine lv_iconst (v := 1) hx hb dX3_lay_37 (by decide) ?_
      refine sp_vI (rest := []) (As := [.int 1]) (W1 := [(mo, oM (upd (upd MF 0 0) 0 1) g0 t0 z0), (g0, aI cI 39 g)]) ⟨hx, hb, hml, hown, hts⟩ (mX3_fail l D cI cT mo g0 t0 z0 (upd MF 0 0) 1) (cwV 1 hts gX3_lay_X3_fail rfl rfl rfl (by decide +kernel) ⟨Nat.le_of_ble_eq_true rfl, Nat.le_of_ble_eq_true rfl⟩) hK hP hD hS [0] rfl (fun k q h => by simp at h) (sp_nsub hN [0] (by decide) rfl) rfl rfl rfl (ci := 3) rfl rfl rfl rfl hl.1 rfl (Nat.le_of_ble_eq_true rfl) dX3_lay_38 ⟨Nat.le_of_ble_eq_true rfl, Nat.le_of_ble_eq_true rfl⟩ (fun H locs hP hD hS => ?_)
      have eq9 : (mLay x a b MF g ns) = (0, upd MF 0 1, g) := by unfold mLay; rw [if_neg (by simp [c23])]
      refine sp_top (show 0 = (mLay x a b MF g ns).1 from by rw [eq9]) ?_
      refine W.widen (k := 1) (n := 3) (Nat.zero_le _) (Nat.zero_le _) ?_
      subst hQ
      have hP9 : va_P D vwCl [(mo, oM (mLay x a b MF g ns).2.1 g0 t0 z0), (g0, aI cI 39 (mLay x a b MF g ns).2.2)] H := by rw [eq9]; exact hP.sub [0, 1] rfl
      subst hAe
      exact W.iret hx hb hr (fun t ht hW => ⟨⟨_, (), rfl, rfl, by show va_P D vwCl _ t.heap; rw [ht]; exact hP9⟩, hS.F ht⟩) hS.2.2 dX3_lay_41
    · skip
      refine lv_iload_n hx hb dX3_lay_26 rfl (lv_at hl 3 rfl) ?_
      refine lv_iconst (v := 0) hx hb dX3_lay_27 (by decide) ?_
      refine lv_bipush (v := 9) hx hb dX3_lay_28 (by decide) ?_
      refine sp_rS (rest := []) (As := [.int b, .int 0, .int 9]) ⟨hx, hb, hml, hown, hts⟩ (mX3_isIn l D cI cT b 0 9) (va_cwS 3 hts gX3_lay_X3_isIn rfl rfl rfl (by decide +kernel) ⟨Nat.le_of_ble_eq_true rfl, Nat.le_of_ble_eq_true rfl⟩) hK (show va_P D vwCl [] _ from fun k q h => by simp at h) rfl hl.1 rfl (Nat.le_of_ble_eq_true rfl) dX3_lay_30 ⟨Nat.le_of_ble_eq_true rfl, Nat.le_of_ble_eq_true rfl⟩ ?_
      refine sp_if_ne (tgt := 42) hx hb dX3_lay_33 (by decide) (fun c33 => ?_) (fun c33 => ?_)
      · skip
        refine lv_aload_n hx hb dX3_lay_42 rfl (lv_at hl 0 rfl) ?_
        refine lv_iload_n hx hb dX3_lay_43 rfl (lv_at hl 1 rfl) ?_
        refine sp_rV (rest := []) (As := [.int x]) ⟨hx, hb, hml, hown, hts⟩ (mX3_stretchAt l D cI cT mo g0 t0 z0 (upd MF 0 0) g x ns hns0 hns h5) (cwV 1 hts gX3_lay_X3_stretchAt rfl rfl rfl (by decide +kernel) ⟨Nat.le_of_ble_eq_true rfl, Nat.le_of_ble_eq_true rfl⟩) hK (sp_pick hP [0, 1] rfl) (ci := 3) rfl rfl rfl rfl hl.1 rfl (Nat.le_of_ble_eq_true rfl) dX3_lay_44 ⟨Nat.le_of_ble_eq_true rfl, Nat.le_of_ble_eq_true rfl⟩ ?_
        obtain ⟨k, ek⟩ : ∃ k, k = mStr g x (ns - 1) := ⟨_, rfl⟩
        have hk : k ≤ ns - 1 := by rw [ek]; exact mStr_le _ _ _
        rw [← ek]
        refine lv_istore (lv' := [(4, .int (nI k)), (0, .ref mo), (1, .int x), (2, .int a), (3, .int b)]) hx hb dX3_lay_47 hl (by decide) rfl (fun ls hl => ?_)
        refine lv_aload_n hx hb dX3_lay_49 rfl (lv_at hl 1 rfl) ?_
        refine va_get (D := D) (ci := 3) (v := .ref g0) (C := RX3) (T := TX3) (N := 9) hx hb hts hiX3 hown hK.1 hP 0 rfl rfl 6 (by decide) (hts (.fieldLink RX3 16 "SledgeRaceModel" "ground" "[I") (by decide +kernel)) (fun _ h9 => h9) rfl dX3_lay_50 ?_
        refine lv_iconst (v := nI 3) hx hb dX3_lay_53 (by decide) ?_
        refine lv_iload hx hb dX3_lay_54 (lv_at hl 0 rfl) ?_
        refine lv_imul hx hb dX3_lay_56 ?_
        refine sp_top (pk_mul 3 k : (nI 3) * (nI k) = nI (3 * k)) ?_
        refine sp_iald hx hb hK.1 hP 1 0 rfl rfl (by omega) (by omega) dX3_lay_57 ?_
        refine lv_iload_n hx hb dX3_lay_58 rfl (lv_at hl 2 rfl) ?_
        refine lv_icmp_eq (tgt := 66) hx hb dX3_lay_59 (by decide) (fun c59 => ?_) (fun c59 => ?_)
        · skip
          refine lv_iconst (v := 0) hx hb dX3_lay_66 (by decide) ?_
          refine lv_istore (lv' := [(5, .int 0), (4, .int (nI k)), (0, .ref mo), (1, .int x), (2, .int a), (3, .int b)]) hx hb dX3_lay_67 hl (by decide) rfl (fun ls hl => ?_)
          refine lv_iload hx hb dX3_lay_69 (lv_at hl 0 rfl) ?_
          refine lv_if_eq (tgt := 89) hx hb dX3_lay_71 (by decide) (fun _ => ?_) (fun c71 => absurd c71 (by decide))
          refine lv_iload hx hb dX3_lay_89 (lv_at hl 0 rfl) ?_
          refine lv_if_eq (tgt := 137) hx hb dX3_lay_91 (by decide) (fun _ => ?_) (fun c91 => absurd c91 (by decide))
          refine lv_iconst (v := 3) hx hb dX3_lay_137 (by decide) ?_
          refine sp_newa hx hb (hts (.arrayClass .int) (by decide +kernel)) hK hP hD hS hA 3 rfl (by decide) (Nat.le_of_ble_eq_true rfl) (Nat.le_of_ble_eq_true rfl) dX3_lay_138 (fun q138 H hP hD hS => ?_)
          have hP : va_P D vwCl [(mo, oM (upd MF 0 0) g0 t0 z0), (g0, aI cI 39 g), (q138, aI cI 3 (fun _ => 0))] H := hP
          have hD : va_D A [(mo, oM (upd MF 0 0) g0 t0 z0), (g0, aI cI 39 g), (q138, aI cI 3 (fun _ => 0))] := hD
          refine lv_dup hx hb dX3_lay_140 rfl ?_
          refine lv_iconst (v := 0) hx hb dX3_lay_141 (by decide) ?_
          refine lv_iload_n hx hb dX3_lay_142 rfl (lv_at hl 3 rfl) ?_
          refine sp_iast (i := 0) hx hb hK.1 hP hD hS 2 0 rfl rfl (by omega) (by omega) dX3_lay_143 (fun H locs hP hD hS => ?_)
          have hP : va_P D vwCl [(mo, oM (upd MF 0 0) g0 t0 z0), (g0, aI cI 39 g), (q138, aI cI 3 (upd (fun _ => 0) 0 x))] H := hP
          have hD : va_D A [(mo, oM (upd MF 0 0) g0 t0 z0), (g0, aI cI 39 g), (q138, aI cI 3 (upd (fun _ => 0) 0 x))] := hD
          refine lv_dup hx hb dX3_lay_144 rfl ?_
          refine lv_iconst (v := 1) hx hb dX3_lay_145 (by decide) ?_
          refine lv_iload_n hx hb dX3_lay_146 rfl (lv_at hl 4 rfl) ?_
          refine sp_iast (i := 1) hx hb hK.1 hP hD hS 2 0 rfl rfl (by omega) (by omega) dX3_lay_147 (fun H locs hP hD hS => ?_)
          have hP : va_P D vwCl [(mo, oM (upd MF 0 0) g0 t0 z0), (g0, aI cI 39 g), (q138, aI cI 3 (upd (upd (fun _ => 0) 0 x) 1 a))] H := hP
          have hD : va_D A [(mo, oM (upd MF 0 0) g0 t0 z0), (g0, aI cI 39 g), (q138, aI cI 3 (upd (upd (fun _ => 0) 0 x) 1 a))] := hD
          refine lv_dup hx hb dX3_lay_148 rfl ?_
          refine lv_iconst (v := 2) hx hb dX3_lay_149 (by decide) ?_
          refine lv_iload_n hx hb dX3_lay_150 rfl (lv_at hl 5 rfl) ?_
          refine sp_iast (i := 2) hx hb hK.1 hP hD hS 2 0 rfl rfl (by omega) (by omega) dX3_lay_151 (fun H locs hP hD hS => ?_)
          have hP : va_P D vwCl [(mo, oM (upd MF 0 0) g0 t0 z0), (g0, aI cI 39 g), (q138, aI cI 3 (upd (upd (upd (fun _ => 0) 0 x) 1 a) 2 b))] H := hP
          have hD : va_D A [(mo, oM (upd MF 0 0) g0 t0 z0), (g0, aI cI 39 g), (q138, aI cI 3 (upd (upd (upd (fun _ => 0) 0 x) 1 a) 2 b))] := hD
          refine lv_astore (lv' := [(6, .ref q138), (5, .int 0), (4, .int (nI k)), (0, .ref mo), (1, .int x), (2, .int a), (3, .int b)]) hx hb dX3_lay_152 hl (by decide) rfl (fun ls hl => ?_)
          refine lv_aload hx hb dX3_lay_154 (lv_at hl 0 rfl) ?_
          refine lv_iconst (v := 0) hx hb dX3_lay_156 (by decide) ?_
          refine lv_aload_n hx hb dX3_lay_157 rfl (lv_at hl 3 rfl) ?_
          refine va_get (D := D) (ci := 3) (v := .ref g0) (C := RX3) (T := TX3) (N := 9) hx hb hts hiX3 hown hK.1 hP 0 rfl rfl 6 (by decide) (hts (.fieldLink RX3 16 "SledgeRaceModel" "ground" "[I") (by decide +kernel)) (fun _ h9 => h9) rfl dX3_lay_158 ?_
          refine lv_iconst (v := nI 3) hx hb dX3_lay_161 (by decide) ?_
          refine lv_iload hx hb dX3_lay_162 (lv_at hl 2 rfl) ?_
          refine lv_imul hx hb dX3_lay_164 ?_
          refine sp_top (pk_mul 3 k : (nI 3) * (nI k) = nI (3 * k)) ?_
          refine lv_iconst (v := 3) hx hb dX3_lay_165 (by decide) ?_
          refine sp_copy hx hb (hml.trans hl.1.symm) hown (hts (.methodLink RX3 46 arraycopyName) (by decide +kernel)) (hts (.native arraycopyName) (by decide +kernel)) (hts (.static arraycopyName) (by decide +kernel)) (hts (.initialized "java/lang/System") (by decide +kernel)) hK.1 hP hD hS 2 1 rfl rfl rfl 0 (3 * k) 3 (by omega) (by omega) (by decide) (by decide) (Nat.le_of_ble_eq_true rfl) (Nat.le_of_ble_eq_true rfl) dX3_lay_166 (fun H locs hP hD hS => ?_)
          have hP : va_P D vwCl [(mo, oM (upd MF 0 0) g0 t0 z0), (g0, aI cI 39 (va_cpy (upd (upd (upd (fun _ => 0) 0 x) 1 a) 2 b) g 0 (3 * k) 3)), (q138, aI cI 3 (upd (upd (upd (fun _ => 0) 0 x) 1 a) 2 b))] H := hP
          have hD : va_D A [(mo, oM (upd MF 0 0) g0 t0 z0), (g0, aI cI 39 (va_cpy (upd (upd (upd (fun _ => 0) 0 x) 1 a) 2 b) g 0 (3 * k) 3)), (q138, aI cI 3 (upd (upd (upd (fun _ => 0) 0 x) 1 a) 2 b))] := hD
          refine lv_aload_n hx hb dX3_lay_169 rfl (lv_at hl 3 rfl) ?_
          refine va_get (D := D) (ci := 3) (v := .int (nI ns)) (C := RX3) (T := TX3) (N := 9) hx hb hts hiX3 hown hK.1 hP 0 rfl rfl 5 (by decide) (hts (.fieldLink RX3 13 "SledgeRaceModel" "stretches" "I") (by decide +kernel)) (fun _ h9 => h9) (congrArg (fun z => some (Value.int z)) h5) dX3_lay_170 ?_
          have eq9 : (mLay x a b MF g ns) = (nI ns, upd MF 0 0, va_cpy (mSaid3 x a b) g 0 (3 * k) 3) := by unfold mLay; rw [if_pos (by rw [c13, c23, c33]; rfl), ← ek, if_pos c59]
          refine sp_top (show nI ns = (mLay x a b MF g ns).1 from by rw [eq9]) ?_
          subst hQ
          have hP9 : va_P D vwCl [(mo, oM (mLay x a b MF g ns).2.1 g0 t0 z0), (g0, aI cI 39 (mLay x a b MF g ns).2.2)] H := by rw [eq9]; exact hP.sub [0, 1] rfl
          subst hAe
          exact W.iret hx hb hr (fun t ht hW => ⟨⟨_, (), rfl, rfl, by show va_P D vwCl _ t.heap; rw [ht]; exact hP9⟩, hS.F ht⟩) hS.2.2 dX3_lay_173
        · skip
          refine lv_iconst (v := 1) hx hb dX3_lay_62 (by decide) ?_
          refine lv_goto (tgt := 67) hx hb dX3_lay_63 (by decide) ?_
          refine lv_istore (lv' := [(5, .int 1), (4, .int (nI k)), (0, .ref mo), (1, .int x), (2, .int a), (3, .int b)]) hx hb dX3_lay_67 hl (by decide) rfl (fun ls hl => ?_)
          refine lv_iload hx hb dX3_lay_69 (lv_at hl 0 rfl) ?_
          refine lv_if_eq (tgt := 89) hx hb dX3_lay_71 (by decide) (fun c71 => absurd c71 (by decide)) (fun _ => ?_)
          refine lv_aload_n hx hb dX3_lay_74 rfl (lv_at hl 2 rfl) ?_
          refine va_get (D := D) (ci := 3) (v := .int (nI ns)) (C := RX3) (T := TX3) (N := 9) hx hb hts hiX3 hown hK.1 hP 0 rfl rfl 5 (by decide) (hts (.fieldLink RX3 13 "SledgeRaceModel" "stretches" "I") (by decide +kernel)) (fun _ h9 => h9) (congrArg (fun z => some (Value.int z)) h5) dX3_lay_75 ?_
          refine lv_bipush (v := nI 12) hx hb dX3_lay_78 (by decide) ?_
          refine sp_ne (by omega) (by omega) (tgt := 89) hx hb dX3_lay_80 (by decide) (fun c80 => ?_) (fun c80 => ?_)
          · skip
            refine lv_iload hx hb dX3_lay_89 (lv_at hl 0 rfl) ?_
            refine lv_if_eq (tgt := 137) hx hb dX3_lay_91 (by decide) (fun c91 => absurd c91 (by decide)) (fun _ => ?_)
            refine lv_iinc (v := nI (k + 1)) (lv' := [(4, .int (nI (k + 1))), (5, .int 1), (0, .ref mo), (1, .int x), (2, .int a), (3, .int b)]) hx hb dX3_lay_94 hl (k := 1) rfl ((nI_1 k)) (by decide) rfl (fun ls hl => ?_)
            refine lv_aload_n hx hb dX3_lay_97 rfl (lv_at hl 2 rfl) ?_
            refine va_get (D := D) (ci := 3) (v := .ref g0) (C := RX3) (T := TX3) (N := 9) hx hb hts hiX3 hown hK.1 hP 0 rfl rfl 6 (by decide) (hts (.fieldLink RX3 16 "SledgeRaceModel" "ground" "[I") (by decide +kernel)) (fun _ h9 => h9) rfl dX3_lay_98 ?_
            refine lv_iconst (v := nI 3) hx hb dX3_lay_101 (by decide) ?_
            refine lv_iload hx hb dX3_lay_102 (lv_at hl 0 rfl) ?_
            refine lv_imul hx hb dX3_lay_104 ?_
            refine sp_top (pk_mul 3 (k + 1) : (nI 3) * (nI (k + 1)) = nI (3 * (k + 1))) ?_
            refine lv_aload_n hx hb dX3_lay_105 rfl (lv_at hl 2 rfl) ?_
            refine va_get (D := D) (ci := 3) (v := .ref g0) (C := RX3) (T := TX3) (N := 9) hx hb hts hiX3 hown hK.1 hP 0 rfl rfl 6 (by decide) (hts (.fieldLink RX3 16 "SledgeRaceModel" "ground" "[I") (by decide +kernel)) (fun _ h9 => h9) rfl dX3_lay_106 ?_
            refine lv_iconst (v := nI 3) hx hb dX3_lay_109 (by decide) ?_
            refine lv_iload hx hb dX3_lay_110 (lv_at hl 0 rfl) ?_
            refine lv_iconst (v := 1) hx hb dX3_lay_112 (by decide) ?_
            refine lv_iadd hx hb dX3_lay_113 ?_
            refine sp_top (nI_1 (k + 1) : (nI (k + 1)) + 1 = nI (k + 1 + 1)) ?_
            refine lv_imul hx hb dX3_lay_114 ?_
            refine sp_top (pk_mul 3 (k + 1 + 1) : (nI 3) * (nI (k + 1 + 1)) = nI (3 * (k + 1 + 1))) ?_
            refine lv_iconst (v := nI 3) hx hb dX3_lay_115 (by decide) ?_
            refine lv_aload_n hx hb dX3_lay_116 rfl (lv_at hl 2 rfl) ?_
            refine va_get (D := D) (ci := 3) (v := .int (nI ns)) (C := RX3) (T := TX3) (N := 9) hx hb hts hiX3 hown hK.1 hP 0 rfl rfl 5 (by decide) (hts (.fieldLink RX3 13 "SledgeRaceModel" "stretches" "I") (by decide +kernel)) (fun _ h9 => h9) (congrArg (fun z => some (Value.int z)) h5) dX3_lay_117 ?_
            refine lv_iload hx hb dX3_lay_120 (lv_at hl 0 rfl) ?_
            refine lv_isub hx hb dX3_lay_122 ?_
            refine sp_top (pk_sub (by omega) : (nI ns) - (nI (k + 1)) = nI (ns - (k + 1))) ?_
            refine lv_imul hx hb dX3_lay_123 ?_
            refine sp_top (pk_mul 3 (ns - (k + 1)) : (nI 3) * (nI (ns - (k + 1))) = nI (3 * (ns - (k + 1)))) ?_
            refine sp_copy hx hb (hml.trans hl.1.symm) hown (hts (.methodLink RX3 46 arraycopyName) (by decide +kernel)) (hts (.native arraycopyName) (by decide +kernel)) (hts (.static arraycopyName) (by decide +kernel)) (hts (.initialized "java/lang/System") (by decide +kernel)) hK.1 hP hD hS 1 1 rfl rfl rfl (3 * (k + 1)) (3 * (k + 1 + 1)) (3 * (ns - (k + 1))) (by omega) (by omega) (by decide) (by decide) (Nat.le_of_ble_eq_true rfl) (Nat.le_of_ble_eq_true rfl) dX3_lay_124 (fun H locs hP hD hS => ?_)
            have hP : va_P D vwCl [(mo, oM (upd MF 0 0) g0 t0 z0), (g0, aI cI 39 (va_cpy g g (3 * (k + 1)) (3 * (k + 1 + 1)) (3 * (ns - (k + 1)))))] H := hP
            have hD : va_D A [(mo, oM (upd MF 0 0) g0 t0 z0), (g0, aI cI 39 (va_cpy g g (3 * (k + 1)) (3 * (k + 1 + 1)) (3 * (ns - (k + 1)))))] := hD
            refine lv_aload_n hx hb dX3_lay_127 rfl (lv_at hl 2 rfl) ?_
            refine lv_dup hx hb dX3_lay_128 rfl ?_
            refine va_get (D := D) (ci := 3) (v := .int (nI ns)) (C := RX3) (T := TX3) (N := 9) hx hb hts hiX3 hown hK.1 hP 0 rfl rfl 5 (by decide) (hts (.fieldLink RX3 13 "SledgeRaceModel" "stretches" "I") (by decide +kernel)) (fun _ h9 => h9) (congrArg (fun z => some (Value.int z)) h5) dX3_lay_129 ?_
            refine lv_iconst (v := 1) hx hb dX3_lay_132 (by decide) ?_
            refine lv_iadd hx hb dX3_lay_133 ?_
            refine sp_top (nI_1 ns : (nI ns) + 1 = nI (ns + 1)) ?_
            refine va_put (D := D) (ci := 3) (v := .int (nI (ns + 1))) (ty := .int) (C := RX3) (T := TX3) (N := 9) hx hb hts hiX3 tyX3 tyX3_ok nmX3 hown hK.1 hP hD hS 0 rfl rfl 5 (by decide) (hts (.fieldLink RX3 13 "SledgeRaceModel" "stretches" "I") (by decide +kernel)) (fun _ h9 => h9) rfl (by decide +kernel) rfl rfl (Nat.le_of_ble_eq_true rfl) dX3_lay_134 (fun H locs hP hD hS => ?_)
            have hP : va_P D vwCl [(mo, oM (upd (upd MF 0 0) 5 (nI (ns + 1))) g0 t0 z0), (g0, aI cI 39 (va_cpy g g (3 * (k + 1)) (3 * (k + 1 + 1)) (3 * (ns - (k + 1)))))] H := hP
            have hD : va_D A [(mo, oM (upd (upd MF 0 0) 5 (nI (ns + 1))) g0 t0 z0), (g0, aI cI 39 (va_cpy g g (3 * (k + 1)) (3 * (k + 1 + 1)) (3 * (ns - (k + 1)))))] := hD
            refine lv_iconst (v := 3) hx hb dX3_lay_137 (by decide) ?_
            refine sp_newa hx hb (hts (.arrayClass .int) (by decide +kernel)) hK hP hD hS hA 3 rfl (by decide) (Nat.le_of_ble_eq_true rfl) (Nat.le_of_ble_eq_true rfl) dX3_lay_138 (fun q138 H hP hD hS => ?_)
            have hP : va_P D vwCl [(mo, oM (upd (upd MF 0 0) 5 (nI (ns + 1))) g0 t0 z0), (g0, aI cI 39 (va_cpy g g (3 * (k + 1)) (3 * (k + 1 + 1)) (3 * (ns - (k + 1))))), (q138, aI cI 3 (fun _ => 0))] H := hP
            have hD : va_D A [(mo, oM (upd (upd MF 0 0) 5 (nI (ns + 1))) g0 t0 z0), (g0, aI cI 39 (va_cpy g g (3 * (k + 1)) (3 * (k + 1 + 1)) (3 * (ns - (k + 1))))), (q138, aI cI 3 (fun _ => 0))] := hD
            refine lv_dup hx hb dX3_lay_140 rfl ?_
            refine lv_iconst (v := 0) hx hb dX3_lay_141 (by decide) ?_
            refine lv_iload_n hx hb dX3_lay_142 rfl (lv_at hl 3 rfl) ?_
            refine sp_iast (i := 0) hx hb hK.1 hP hD hS 2 0 rfl rfl (by omega) (by omega) dX3_lay_143 (fun H locs hP hD hS => ?_)
            have hP : va_P D vwCl [(mo, oM (upd (upd MF 0 0) 5 (nI (ns + 1))) g0 t0 z0), (g0, aI cI 39 (va_cpy g g (3 * (k + 1)) (3 * (k + 1 + 1)) (3 * (ns - (k + 1))))), (q138, aI cI 3 (upd (fun _ => 0) 0 x))] H := hP
            have hD : va_D A [(mo, oM (upd (upd MF 0 0) 5 (nI (ns + 1))) g0 t0 z0), (g0, aI cI 39 (va_cpy g g (3 * (k + 1)) (3 * (k + 1 + 1)) (3 * (ns - (k + 1))))), (q138, aI cI 3 (upd (fun _ => 0) 0 x))] := hD
            refine lv_dup hx hb dX3_lay_144 rfl ?_
            refine lv_iconst (v := 1) hx hb dX3_lay_145 (by decide) ?_
            refine lv_iload_n hx hb dX3_lay_146 rfl (lv_at hl 4 rfl) ?_
            refine sp_iast (i := 1) hx hb hK.1 hP hD hS 2 0 rfl rfl (by omega) (by omega) dX3_lay_147 (fun H locs hP hD hS => ?_)
            have hP : va_P D vwCl [(mo, oM (upd (upd MF 0 0) 5 (nI (ns + 1))) g0 t0 z0), (g0, aI cI 39 (va_cpy g g (3 * (k + 1)) (3 * (k + 1 + 1)) (3 * (ns - (k + 1))))), (q138, aI cI 3 (upd (upd (fun _ => 0) 0 x) 1 a))] H := hP
            have hD : va_D A [(mo, oM (upd (upd MF 0 0) 5 (nI (ns + 1))) g0 t0 z0), (g0, aI cI 39 (va_cpy g g (3 * (k + 1)) (3 * (k + 1 + 1)) (3 * (ns - (k + 1))))), (q138, aI cI 3 (upd (upd (fun _ => 0) 0 x) 1 a))] := hD
            refine lv_dup hx hb dX3_lay_148 rfl ?_
            refine lv_iconst (v := 2) hx hb dX3_lay_149 (by decide) ?_
            refine lv_iload_n hx hb dX3_lay_150 rfl (lv_at hl 5 rfl) ?_
            refine sp_iast (i := 2) hx hb hK.1 hP hD hS 2 0 rfl rfl (by omega) (by omega) dX3_lay_151 (fun H locs hP hD hS => ?_)
            have hP : va_P D vwCl [(mo, oM (upd (upd MF 0 0) 5 (nI (ns + 1))) g0 t0 z0), (g0, aI cI 39 (va_cpy g g (3 * (k + 1)) (3 * (k + 1 + 1)) (3 * (ns - (k + 1))))), (q138, aI cI 3 (upd (upd (upd (fun _ => 0) 0 x) 1 a) 2 b))] H := hP
            have hD : va_D A [(mo, oM (upd (upd MF 0 0) 5 (nI (ns + 1))) g0 t0 z0), (g0, aI cI 39 (va_cpy g g (3 * (k + 1)) (3 * (k + 1 + 1)) (3 * (ns - (k + 1))))), (q138, aI cI 3 (upd (upd (upd (fun _ => 0) 0 x) 1 a) 2 b))] := hD
            refine lv_astore (lv' := [(6, .ref q138), (4, .int (nI (k + 1))), (5, .int 1), (0, .ref mo), (1, .int x), (2, .int a), (3, .int b)]) hx hb dX3_lay_152 hl (by decide) rfl (fun ls hl => ?_)
            refine lv_aload hx hb dX3_lay_154 (lv_at hl 0 rfl) ?_
            refine lv_iconst (v := 0) hx hb dX3_lay_156 (by decide) ?_
            refine lv_aload_n hx hb dX3_lay_157 rfl (lv_at hl 3 rfl) ?_
            refine va_get (D := D) (ci := 3) (v := .ref g0) (C := RX3) (T := TX3) (N := 9) hx hb hts hiX3 hown hK.1 hP 0 rfl rfl 6 (by decide) (hts (.fieldLink RX3 16 "SledgeRaceModel" "ground" "[I") (by decide +kernel)) (fun _ h9 => h9) rfl dX3_lay_158 ?_
            refine lv_iconst (v := nI 3) hx hb dX3_lay_161 (by decide) ?_
            refine lv_iload hx hb dX3_lay_162 (lv_at hl 1 rfl) ?_
            refine lv_imul hx hb dX3_lay_164 ?_
            refine sp_top (pk_mul 3 (k + 1) : (nI 3) * (nI (k + 1)) = nI (3 * (k + 1))) ?_
            refine lv_iconst (v := 3) hx hb dX3_lay_165 (by decide) ?_
            refine sp_copy hx hb (hml.trans hl.1.symm) hown (hts (.methodLink RX3 46 arraycopyName) (by decide +kernel)) (hts (.native arraycopyName) (by decide +kernel)) (hts (.static arraycopyName) (by decide +kernel)) (hts (.initialized "java/lang/System") (by decide +kernel)) hK.1 hP hD hS 2 1 rfl rfl rfl 0 (3 * (k + 1)) 3 (by omega) (by omega) (by decide) (by decide) (Nat.le_of_ble_eq_true rfl) (Nat.le_of_ble_eq_true rfl) dX3_lay_166 (fun H locs hP hD hS => ?_)
            have hP : va_P D vwCl [(mo, oM (upd (upd MF 0 0) 5 (nI (ns + 1))) g0 t0 z0), (g0, aI cI 39 (va_cpy (upd (upd (upd (fun _ => 0) 0 x) 1 a) 2 b) (va_cpy g g (3 * (k + 1)) (3 * (k + 1 + 1)) (3 * (ns - (k + 1)))) 0 (3 * (k + 1)) 3)), (q138, aI cI 3 (upd (upd (upd (fun _ => 0) 0 x) 1 a) 2 b))] H := hP
            have hD : va_D A [(mo, oM (upd (upd MF 0 0) 5 (nI (ns + 1))) g0 t0 z0), (g0, aI cI 39 (va_cpy (upd (upd (upd (fun _ => 0) 0 x) 1 a) 2 b) (va_cpy g g (3 * (k + 1)) (3 * (k + 1 + 1)) (3 * (ns - (k + 1)))) 0 (3 * (k + 1)) 3)), (q138, aI cI 3 (upd (upd (upd (fun _ => 0) 0 x) 1 a) 2 b))] := hD
            refine lv_aload_n hx hb dX3_lay_169 rfl (lv_at hl 3 rfl) ?_
            refine va_get (D := D) (ci := 3) (v := .int (nI (ns + 1))) (C := RX3) (T := TX3) (N := 9) hx hb hts hiX3 hown hK.1 hP 0 rfl rfl 5 (by decide) (hts (.fieldLink RX3 13 "SledgeRaceModel" "stretches" "I") (by decide +kernel)) (fun _ h9 => h9) rfl dX3_lay_170 ?_
            have eq9 : (mLay x a b MF g ns) = (nI (ns + 1), upd (upd MF 0 0) 5 (nI (ns + 1)), va_cpy (mSaid3 x a b) (va_cpy g g (3 * (k + 1)) (3 * (k + 1 + 1)) (3 * (ns - (k + 1)))) 0 (3 * (k + 1)) 3) := by unfold mLay; rw [if_pos (by rw [c13, c23, c33]; rfl), ← ek, if_neg c59, if_neg c80]
            refine sp_top (show nI (ns + 1) = (mLay x a b MF g ns).1 from by rw [eq9]) ?_
            subst hQ
            have hP9 : va_P D vwCl [(mo, oM (mLay x a b MF g ns).2.1 g0 t0 z0), (g0, aI cI 39 (mLay x a b MF g ns).2.2)] H := by rw [eq9]; exact hP.sub [0, 1] rfl
            subst hAe
            exact W.iret hx hb hr (fun t ht hW => ⟨⟨_, (), rfl, rfl, by show va_P D vwCl _ t.heap; rw [ht]; exact hP9⟩, hS.F ht⟩) hS.2.2 dX3_lay_173
          · skip
            refine lv_aload_n hx hb dX3_lay_83 rfl (lv_at hl 2 rfl) ?_
            refine lv_iconst (v := 2) hx hb dX3_lay_84 (by decide) ?_
            refine sp_vI (rest := []) (As := [.int 2]) (W1 := [(mo, oM (upd (upd MF 0 0) 0 2) g0 t0 z0), (g0, aI cI 39 g)]) ⟨hx, hb, hml, hown, hts⟩ (mX3_fail l D cI cT mo g0 t0 z0 (upd MF 0 0) 2) (cwV 1 hts gX3_lay_X3_fail rfl rfl rfl (by decide +kernel) ⟨Nat.le_of_ble_eq_true rfl, Nat.le_of_ble_eq_true rfl⟩) hK hP hD hS [0] rfl (fun k q h => by simp at h) (sp_nsub hN [0] (by decide) rfl) rfl rfl rfl (ci := 3) rfl rfl rfl rfl hl.1 rfl (Nat.le_of_ble_eq_true rfl) dX3_lay_85 ⟨Nat.le_of_ble_eq_true rfl, Nat.le_of_ble_eq_true rfl⟩ (fun H locs hP hD hS => ?_)
            have eq9 : (mLay x a b MF g ns) = (0, upd MF 0 2, g) := by unfold mLay; rw [if_pos (by rw [c13, c23, c33]; rfl), ← ek, if_neg c59, if_pos c80]
            refine sp_top (show 0 = (mLay x a b MF g ns).1 from by rw [eq9]) ?_
            refine W.widen (k := 1) (n := 3) (Nat.zero_le _) (Nat.zero_le _) ?_
            subst hQ
            have hP9 : va_P D vwCl [(mo, oM (mLay x a b MF g ns).2.1 g0 t0 z0), (g0, aI cI 39 (mLay x a b MF g ns).2.2)] H := by rw [eq9]; exact hP.sub [0, 1] rfl
            subst hAe
            exact W.iret hx hb hr (fun t ht hW => ⟨⟨_, (), rfl, rfl, by show va_P D vwCl _ t.heap; rw [ht]; exact hP9⟩, hS.F ht⟩) hS.2.2 dX3_lay_88
      · skip
        refine lv_aload_n hx hb dX3_lay_36 rfl (lv_at hl 0 rfl) ?_
        refine lv_iconst (v := 1) hx hb dX3_lay_37 (by decide) ?_
        refine sp_vI (rest := []) (As := [.int 1]) (W1 := [(mo, oM (upd (upd MF 0 0) 0 1) g0 t0 z0), (g0, aI cI 39 g)]) ⟨hx, hb, hml, hown, hts⟩ (mX3_fail l D cI cT mo g0 t0 z0 (upd MF 0 0) 1) (cwV 1 hts gX3_lay_X3_fail rfl rfl rfl (by decide +kernel) ⟨Nat.le_of_ble_eq_true rfl, Nat.le_of_ble_eq_true rfl⟩) hK hP hD hS [0] rfl (fun k q h => by simp at h) (sp_nsub hN [0] (by decide) rfl) rfl rfl rfl (ci := 3) rfl rfl rfl rfl hl.1 rfl (Nat.le_of_ble_eq_true rfl) dX3_lay_38 ⟨Nat.le_of_ble_eq_true rfl, Nat.le_of_ble_eq_true rfl⟩ (fun H locs hP hD hS => ?_)
        have eq9 : (mLay x a b MF g ns) = (0, upd MF 0 1, g) := by unfold mLay; rw [if_neg (by simp [c33])]
        refine sp_top (show 0 = (mLay x a b MF g ns).1 from by rw [eq9]) ?_
        refine W.widen (k := 1) (n := 3) (Nat.zero_le _) (Nat.zero_le _) ?_
        subst hQ
        have hP9 : va_P D vwCl [(mo, oM (mLay x a b MF g ns).2.1 g0 t0 z0), (g0, aI cI 39 (mLay x a b MF g ns).2.2)] H := by rw [eq9]; exact hP.sub [0, 1] rfl
        subst hAe
        exact W.iret hx hb hr (fun t ht hW => ⟨⟨_, (), rfl, rfl, by show va_P D vwCl _ t.heap; rw [ht]; exact hP9⟩, hS.F ht⟩) hS.2.2 dX3_lay_41

abbrev rmX3_addTeam : Room := { frames := 2, cells := 1, slots := 9, locals := 45 }
set_option maxHeartbeats 4000000 in
set_option maxRecDepth 100000 in
/-- addTeam -/
theorem mX3_addTeam (l : Launch) (D : va_G) (cI cT : ClassId) (mo g0 t0 z0 : Nat) (MF : Nat → Int32) (sz : Nat) (tv : Nat → TV) (x a b : Int32) (nt : Nat) (hnt : nt ≤ 6) (ht : MF 2 = nI nt) : MetIA l D cI cT yX3_addTeam wsX3_addTeam rmX3_addTeam [.ref mo, .int x, .int a, .int b] [(mo, oM MF g0 t0 z0), (t0, aI cI 174 (tab tv))] [] [(mo, oM (mAddC x a b MF nt tv).2.1 g0 t0 z0), (t0, aI cI 174 (tab (mAddC x a b MF nt tv).2.2))] ((mAddC x a b MF nt tv).1) 1 9 sz := by
  refine Met.ofW (cc := cX3_addTeam) (maxL := 5) (ret := (some .int)) (by decide) rfl ?_
  intro p e s m args below meth c s₁ B hml hv
  obtain ⟨hargs, hsz, hP, hR0, hK, hN⟩ := hv
  have hx := B.exec
  have hb := B.bytes
  have hr := B.returns
  have hts := atoms_spec (ws := wsX3_addTeam) B.pre
  have hown : s.vm.findClass RX3 = some m.cls := findClass_of_methodNamed B.named
  have hlocks := B.notSynchronized
  have hiX3 : ∀ w ∈ u_ws RX3 TX3 9, w ∈ wsX3_addTeam := by decide +kernel
  have he : entryFrame m args 5 = F0 m 0 ((lg_sl [.ref mo, .int x, .int a, .int b] ++ List.replicate (5 - (lg_sl [.ref mo, .int x, .int a, .int b]).length) Slot.unset).toArray) [] := by rw [hargs]; exact lg_entry_eq m _ _
  rw [he]
  change W p l e rmX3_addTeam s m args below meth c s.heap [] 0 0 (MQ below (va_Qi (S := Unit) (fun z _ => z = (mAddC x a b MF nt tv).1) (fun _ t => va_P D vwCl [(mo, oM (mAddC x a b MF nt tv).2.1 g0 t0 z0), (t0, aI cI 174 (tab (mAddC x a b MF nt tv).2.2))] t.heap) (frA (List.map Prod.fst [(mo, oM MF g0 t0 z0), (t0, aI cI 174 (tab tv))]) sz)) args s 1 9 (frA (List.map Prod.fst [(mo, oM MF g0 t0 z0), (t0, aI cI 174 (tab tv))]) sz)) _
  obtain ⟨Q, hQ⟩ : ∃ Q, Q = MQ below (va_Qi (S := Unit) (fun z _ => z = (mAddC x a b MF nt tv).1) (fun _ t => va_P D vwCl [(mo, oM (mAddC x a b MF nt tv).2.1 g0 t0 z0), (t0, aI cI 174 (tab (mAddC x a b MF nt tv).2.2))] t.heap) (frA (List.map Prod.fst [(mo, oM MF g0 t0 z0), (t0, aI cI 174 (tab tv))]) sz)) args s 1 9 (frA (List.map Prod.fst [(mo, oM MF g0 t0 z0), (t0, aI cI 174 (tab tv))]) sz) := ⟨_, rfl⟩
  rw [← hQ]
  have hl := lv_entry [.ref mo, .int x, .int a, .int b] (n := 5) (Nat.le_of_ble_eq_true rfl)
  generalize (lg_sl [.ref mo, .int x, .int a, .int b] ++ List.replicate (5 - (lg_sl [.ref mo, .int x, .int a, .int b]).length) Slot.unset).toArray = ls at hl ⊢
  have hl : lv_has ls 5 [(0, .ref mo), (1, .int x), (2, .int a), (3, .int b)] := hl
  obtain ⟨A, hAe⟩ : ∃ A, A = (frA (List.map Prod.fst [(mo, oM MF g0 t0 z0), (t0, aI cI 174 (tab tv))]) sz) := ⟨_, rfl⟩
  have hA0 : ∀ q ∈ List.map Prod.fst [(mo, oM MF g0 t0 z0), (t0, aI cI 174 (tab tv))], A q := by rw [hAe]; exact fun q h => Or.inl h
  subst hsz
  have hA : ∀ q : Nat, s.heap.size ≤ q → A q := by rw [hAe]; exact fun q h => Or.inr h
  have hD : va_D A [(mo, oM MF g0 t0 z0), (t0, aI cI 174 (tab tv))] := sp_D (List.nodup_append.mp (show (([(mo, oM MF g0 t0 z0), (t0, aI cI 174 (tab tv))] : va_W).map Prod.fst ++ ([] : va_W).map Prod.fst).Nodup by rw [← List.map_append]; exact hN)).1 hA0
  have hN : (List.map Prod.fst ([(mo, oM MF g0 t0 z0), (t0, aI cI 174 (tab tv))] ++ []) : List Nat).Nodup := hN
  have hS : va_S A s.heap s.heap [] := va_S.rf
  obtain ⟨H, hH0⟩ : ∃ H, H = s.heap := ⟨_, rfl⟩
  obtain ⟨locs, hlo⟩ : ∃ L : List Loc, L = [] := ⟨_, rfl⟩
  have hP : va_P D vwCl [(mo, oM MF g0 t0 z0), (t0, aI cI 174 (tab tv))] H := by rw [hH0]; exact hP
  have hS : va_S A s.heap H locs := by rw [hH0, hlo]; exact hS
  rw [show W p l e rmX3_addTeam s m args below meth c s.heap [] 0 0 Q (F0 m 0 ls []) = W p l e rmX3_addTeam s m args below meth c H locs 0 0 Q (F0 m 0 ls []) by rw [hH0, hlo]]
  clear hH0 hlo
  refine lv_aload_n hx hb dX3_addTeam_0 rfl (lv_at hl 0 rfl) ?_
  refine lv_iconst (v := 0) hx hb dX3_addTeam_1 (by decide) ?_
  refine va_put (D := D) (ci := 3) (v := .int 0) (ty := .int) (C := RX3) (T := TX3) (N := 9) hx hb hts hiX3 tyX3 tyX3_ok nmX3 hown hK.1 hP hD hS 0 rfl rfl 0 (by decide) (hts (.fieldLink RX3 26 "SledgeRaceModel" "thrown" "I") (by decide +kernel)) (fun _ h9 => h9) rfl (by decide +kernel) rfl rfl (Nat.le_of_ble_eq_true rfl) dX3_addTeam_2 (fun H locs hP hD hS => ?_)
  have hP : va_P D vwCl [(mo, oM (upd MF 0 0) g0 t0 z0), (t0, aI cI 174 (tab tv))] H := hP
  have hD : va_D A [(mo, oM (upd MF 0 0) g0 t0 z0), (t0, aI cI 174 (tab tv))] := hD
  refine lv_iload_n hx hb dX3_addTeam_5 rfl (lv_at hl 1 rfl) ?_
  refine lv_bipush (v := 20) hx hb dX3_addTeam_6 (by decide) ?_
  refine lv_bipush (v := 80) hx hb dX3_addTeam_8 (by decide) ?_
  refine sp_rS (rest := []) (As := [.int x, .int 20, .int 80]) ⟨hx, hb, hml, hown, hts⟩ (mX3_isIn l D cI cT x 20 80) (va_cwS 3 hts gX3_addTeam_X3_isIn rfl rfl rfl (by decide +kernel) ⟨Nat.le_of_ble_eq_true rfl, Nat.le_of_ble_eq_true rfl⟩) hK (show va_P D vwCl [] _ from fun k q h => by simp at h) rfl hl.1 rfl (Nat.le_of_ble_eq_true rfl) dX3_addTeam_10 ⟨Nat.le_of_ble_eq_true rfl, Nat.le_of_ble_eq_true rfl⟩ ?_
  refine sp_if_eq (tgt := 37) hx hb dX3_addTeam_13 (by decide) (fun c13 => ?_) (fun c13 => ?_)
  · skip
    refine lv_aload_n hx hb dX3_addTeam_37 rfl (lv_at hl 0 rfl) ?_
    refine lv_iconst (v := 1) hx hb dX3_addTeam_38 (by decide) ?_
    refine sp_vI (rest := []) (As := [.int 1]) (W1 := [(mo, oM (upd (upd MF 0 0) 0 1) g0 t0 z0), (t0, aI cI 174 (tab tv))]) ⟨hx, hb, hml, hown, hts⟩ (mX3_fail l D cI cT mo g0 t0 z0 (upd MF 0 0) 1) (cwV 1 hts gX3_addTeam_X3_fail rfl rfl rfl (by decide +kernel) ⟨Nat.le_of_ble_eq_true rfl, Nat.le_of_ble_eq_true rfl⟩) hK hP hD hS [0] rfl (fun k q h => by simp at h) (sp_nsub hN [0] (by decide) rfl) rfl rfl rfl (ci := 3) rfl rfl rfl rfl hl.1 rfl (Nat.le_of_ble_eq_true rfl) dX3_addTeam_39 ⟨Nat.le_of_ble_eq_true rfl, Nat.le_of_ble_eq_true rfl⟩ (fun H locs hP hD hS => ?_)
    have eq9 : (mAddC x a b MF nt tv) = (0, upd MF 0 1, tv) := by unfold mAddC; rw [if_neg (by simp [c13])]
    refine sp_top (show 0 = (mAddC x a b MF nt tv).1 from by rw [eq9]) ?_
    refine W.widen (k := 1) (n := 9) (Nat.zero_le _) (Nat.zero_le _) ?_
    subst hQ
    have hP9 : va_P D vwCl [(mo, oM (mAddC x a b MF nt tv).2.1 g0 t0 z0), (t0, aI cI 174 (tab (mAddC x a b MF nt tv).2.2))] H := by rw [eq9]; exact hP.sub [0, 1] rfl
    subst hAe
    exact W.iret hx hb hr (fun t ht hW => ⟨⟨_, (), rfl, rfl, by show va_P D vwCl _ t.heap; rw [ht]; exact hP9⟩, hS.F ht⟩) hS.2.2 dX3_addTeam_42
  · skip
    refine lv_iload_n hx hb dX3_addTeam_16 rfl (lv_at hl 2 rfl) ?_
    refine lv_bipush (v := 10) hx hb dX3_addTeam_17 (by decide) ?_
    refine lv_bipush (v := 99) hx hb dX3_addTeam_19 (by decide) ?_
    refine sp_rS (rest := []) (As := [.int a, .int 10, .int 99]) ⟨hx, hb, hml, hown, hts⟩ (mX3_isIn l D cI cT a 10 99) (va_cwS 3 hts gX3_addTeam_X3_isIn rfl rfl rfl (by decide +kernel) ⟨Nat.le_of_ble_eq_true rfl, Nat.le_of_ble_eq_true rfl⟩) hK (show va_P D vwCl [] _ from fun k q h => by simp at h) rfl hl.1 rfl (Nat.le_of_ble_eq_true rfl) dX3_addTeam_21 ⟨Nat.le_of_ble_eq_true rfl, Nat.le_of_ble_eq_true rfl⟩ ?_
    refine sp_if_eq (tgt := 37) hx hb dX3_addTeam_24 (by decide) (fun c24 => ?_) (fun c24 => ?_)
    · skip
      refine lv_aload_n hx hb dX3_addTeam_37 rfl (lv_at hl 0 rfl) ?_
      refine lv_iconst (v := 1) hx hb dX3_addTeam_38 (by decide) ?_
      refine sp_vI (rest := []) (As := [.int 1]) (W1 := [(mo, oM (upd (upd MF 0 0) 0 1) g0 t0 z0), (t0, aI cI 174 (tab tv))]) ⟨hx, hb, hml, hown, hts⟩ (mX3_fail l D cI cT mo g0 t0 z0 (upd MF 0 0) 1) (cwV 1 hts gX3_addTeam_X3_fail rfl rfl rfl (by decide +kernel) ⟨Nat.le_of_ble_eq_true rfl, Nat.le_of_ble_eq_true rfl⟩) hK hP hD hS [0] rfl (fun k q h => by simp at h) (sp_nsub hN [0] (by decide) rfl) rfl rfl rfl (ci := 3) rfl rfl rfl rfl hl.1 rfl (Nat.le_of_ble_eq_true rfl) dX3_addTeam_39 ⟨Nat.le_of_ble_eq_true rfl, Nat.le_of_ble_eq_true rfl⟩ (fun H locs hP hD hS => ?_)
      have eq9 : (mAddC x a b MF nt tv) = (0, upd MF 0 1, tv) := by unfold mAddC; rw [if_neg (by simp [c24])]
      refine sp_top (show 0 = (mAddC x a b MF nt tv).1 from by rw [eq9]) ?_
      refine W.widen (k := 1) (n := 9) (Nat.zero_le _) (Nat.zero_le _) ?_
      subst hQ
      have hP9 : va_P D vwCl [(mo, oM (mAddC x a b MF nt tv).2.1 g0 t0 z0), (t0, aI cI 174 (tab (mAddC x a b MF nt tv).2.2))] H := by rw [eq9]; exact hP.sub [0, 1] rfl
      subst hAe
      exact W.iret hx hb hr (fun t ht hW => ⟨⟨_, (), rfl, rfl, by show va_P D vwCl _ t.heap; rw [ht]; exact hP9⟩, hS.F ht⟩) hS.2.2 dX3_addTeam_42
    · skip
      refine lv_iload_n hx hb dX3_addTeam_27 rfl (lv_at hl 3 rfl) ?_
      refine lv_iconst (v := 2) hx hb dX3_addTeam_28 (by decide) ?_
      refine lv_bipush (v := 8) hx hb dX3_addTeam_29 (by decide) ?_
      refine sp_rS (rest := []) (As := [.int b, .int 2, .int 8]) ⟨hx, hb, hml, hown, hts⟩ (mX3_isIn l D cI cT b 2 8) (va_cwS 3 hts gX3_addTeam_X3_isIn rfl rfl rfl (by decide +kernel) ⟨Nat.le_of_ble_eq_true rfl, Nat.le_of_ble_eq_true rfl⟩) hK (show va_P D vwCl [] _ from fun k q h => by simp at h) rfl hl.1 rfl (Nat.le_of_ble_eq_true rfl) dX3_addTeam_31 ⟨Nat.le_of_ble_eq_true rfl, Nat.le_of_ble_eq_true rfl⟩ ?_
      refine sp_if_ne (tgt := 43) hx hb dX3_addTeam_34 (by decide) (fun c34 => ?_) (fun c34 => ?_)
      · skip
        obtain ⟨n, hn2, hn, rfl⟩ := isIn_rng (a := 2) (b := 8) (by decide) (by decide) c34
        refine lv_aload_n hx hb dX3_addTeam_43 rfl (lv_at hl 0 rfl) ?_
        refine va_get (D := D) (ci := 3) (v := .int (nI nt)) (C := RX3) (T := TX3) (N := 9) hx hb hts hiX3 hown hK.1 hP 0 rfl rfl 2 (by decide) (hts (.fieldLink RX3 29 "SledgeRaceModel" "teams" "I") (by decide +kernel)) (fun _ h9 => h9) (congrArg (fun z => some (Value.int z)) ht) dX3_addTeam_44 ?_
        refine lv_bipush (v := nI 6) hx hb dX3_addTeam_47 (by decide) ?_
        refine sp_eq (by omega) (by omega) (tgt := 59) hx hb dX3_addTeam_49 (by decide) (fun c49 => ?_) (fun c49 => ?_)
        · skip
          refine lv_aload_n hx hb dX3_addTeam_59 rfl (lv_at hl 0 rfl) ?_
          refine lv_iconst (v := 2) hx hb dX3_addTeam_60 (by decide) ?_
          refine sp_vI (rest := []) (As := [.int 2]) (W1 := [(mo, oM (upd (upd MF 0 0) 0 2) g0 t0 z0), (t0, aI cI 174 (tab tv))]) ⟨hx, hb, hml, hown, hts⟩ (mX3_fail l D cI cT mo g0 t0 z0 (upd MF 0 0) 2) (cwV 1 hts gX3_addTeam_X3_fail rfl rfl rfl (by decide +kernel) ⟨Nat.le_of_ble_eq_true rfl, Nat.le_of_ble_eq_true rfl⟩) hK hP hD hS [0] rfl (fun k q h => by simp at h) (sp_nsub hN [0] (by decide) rfl) rfl rfl rfl (ci := 3) rfl rfl rfl rfl hl.1 rfl (Nat.le_of_ble_eq_true rfl) dX3_addTeam_61 ⟨Nat.le_of_ble_eq_true rfl, Nat.le_of_ble_eq_true rfl⟩ (fun H locs hP hD hS => ?_)
          have eq9 : (mAddC x a (nI n) MF nt tv) = (0, upd MF 0 2, tv) := by unfold mAddC; rw [if_pos (by rw [c13, c24, c34]; rfl), if_pos (Or.inl c49)]
          refine sp_top (show 0 = (mAddC x a (nI n) MF nt tv).1 from by rw [eq9]) ?_
          refine W.widen (k := 1) (n := 9) (Nat.zero_le _) (Nat.zero_le _) ?_
          subst hQ
          have hP9 : va_P D vwCl [(mo, oM (mAddC x a (nI n) MF nt tv).2.1 g0 t0 z0), (t0, aI cI 174 (tab (mAddC x a (nI n) MF nt tv).2.2))] H := by rw [eq9]; exact hP.sub [0, 1] rfl
          subst hAe
          exact W.iret hx hb hr (fun t ht hW => ⟨⟨_, (), rfl, rfl, by show va_P D vwCl _ t.heap; rw [ht]; exact hP9⟩, hS.F ht⟩) hS.2.2 dX3_addTeam_64
        · skip
          refine lv_aload_n hx hb dX3_addTeam_52 rfl (lv_at hl 0 rfl) ?_
          refine va_get (D := D) (ci := 3) (v := .int (MF 1)) (C := RX3) (T := TX3) (N := 9) hx hb hts hiX3 hown hK.1 hP 0 rfl rfl 1 (by decide) (hts (.fieldLink RX3 40 "SledgeRaceModel" "tick" "I") (by decide +kernel)) (fun _ h9 => h9) rfl dX3_addTeam_53 ?_
          refine lv_if_eq (tgt := 65) hx hb dX3_addTeam_56 (by decide) (fun c56 => ?_) (fun c56 => ?_)
          · skip
            refine lv_bipush (v := nI 9) hx hb dX3_addTeam_65 (by decide) ?_
            refine sp_newa hx hb (hts (.arrayClass .int) (by decide +kernel)) hK hP hD hS hA 9 rfl (by decide) (Nat.le_of_ble_eq_true rfl) (Nat.le_of_ble_eq_true rfl) dX3_addTeam_67 (fun q67 H hP hD hS => ?_)
            have hP : va_P D vwCl [(mo, oM (upd MF 0 0) g0 t0 z0), (t0, aI cI 174 (tab tv)), (q67, aI cI 9 (fun _ => 0))] H := hP
            have hD : va_D A [(mo, oM (upd MF 0 0) g0 t0 z0), (t0, aI cI 174 (tab tv)), (q67, aI cI 9 (fun _ => 0))] := hD
            refine lv_dup hx hb dX3_addTeam_69 rfl ?_
            refine lv_iconst (v := 0) hx hb dX3_addTeam_70 (by decide) ?_
            refine lv_iload_n hx hb dX3_addTeam_71 rfl (lv_at hl 1 rfl) ?_
            refine sp_iast (i := 0) hx hb hK.1 hP hD hS 2 0 rfl rfl (by omega) (by omega) dX3_addTeam_72 (fun H locs hP hD hS => ?_)
            have hP : va_P D vwCl [(mo, oM (upd MF 0 0) g0 t0 z0), (t0, aI cI 174 (tab tv)), (q67, aI cI 9 (upd (fun _ => 0) 0 x))] H := hP
            have hD : va_D A [(mo, oM (upd MF 0 0) g0 t0 z0), (t0, aI cI 174 (tab tv)), (q67, aI cI 9 (upd (fun _ => 0) 0 x))] := hD
            refine lv_dup hx hb dX3_addTeam_73 rfl ?_
            refine lv_iconst (v := 1) hx hb dX3_addTeam_74 (by decide) ?_
            refine lv_iload_n hx hb dX3_addTeam_75 rfl (lv_at hl 2 rfl) ?_
            refine sp_iast (i := 1) hx hb hK.1 hP hD hS 2 0 rfl rfl (by omega) (by omega) dX3_addTeam_76 (fun H locs hP hD hS => ?_)
            have hP : va_P D vwCl [(mo, oM (upd MF 0 0) g0 t0 z0), (t0, aI cI 174 (tab tv)), (q67, aI cI 9 (upd (upd (fun _ => 0) 0 x) 1 a))] H := hP
            have hD : va_D A [(mo, oM (upd MF 0 0) g0 t0 z0), (t0, aI cI 174 (tab tv)), (q67, aI cI 9 (upd (upd (fun _ => 0) 0 x) 1 a))] := hD
            refine lv_dup hx hb dX3_addTeam_77 rfl ?_
            refine lv_iconst (v := 2) hx hb dX3_addTeam_78 (by decide) ?_
            refine lv_iload_n hx hb dX3_addTeam_79 rfl (lv_at hl 3 rfl) ?_
            refine sp_iast (i := 2) hx hb hK.1 hP hD hS 2 0 rfl rfl (by omega) (by omega) dX3_addTeam_80 (fun H locs hP hD hS => ?_)
            have hP : va_P D vwCl [(mo, oM (upd MF 0 0) g0 t0 z0), (t0, aI cI 174 (tab tv)), (q67, aI cI 9 (upd (upd (upd (fun _ => 0) 0 x) 1 a) 2 (nI n)))] H := hP
            have hD : va_D A [(mo, oM (upd MF 0 0) g0 t0 z0), (t0, aI cI 174 (tab tv)), (q67, aI cI 9 (upd (upd (upd (fun _ => 0) 0 x) 1 a) 2 (nI n)))] := hD
            refine lv_dup hx hb dX3_addTeam_81 rfl ?_
            refine lv_iconst (v := 3) hx hb dX3_addTeam_82 (by decide) ?_
            refine lv_iconst (v := 4) hx hb dX3_addTeam_83 (by decide) ?_
            refine sp_iast (i := 3) hx hb hK.1 hP hD hS 2 0 rfl rfl (by omega) (by omega) dX3_addTeam_84 (fun H locs hP hD hS => ?_)
            have hP : va_P D vwCl [(mo, oM (upd MF 0 0) g0 t0 z0), (t0, aI cI 174 (tab tv)), (q67, aI cI 9 (upd (upd (upd (upd (fun _ => 0) 0 x) 1 a) 2 (nI n)) 3 4))] H := hP
            have hD : va_D A [(mo, oM (upd MF 0 0) g0 t0 z0), (t0, aI cI 174 (tab tv)), (q67, aI cI 9 (upd (upd (upd (upd (fun _ => 0) 0 x) 1 a) 2 (nI n)) 3 4))] := hD
            refine lv_dup hx hb dX3_addTeam_85 rfl ?_
            refine lv_iconst (v := 4) hx hb dX3_addTeam_86 (by decide) ?_
            refine lv_bipush (v := 10) hx hb dX3_addTeam_87 (by decide) ?_
            refine sp_iast (i := 4) hx hb hK.1 hP hD hS 2 0 rfl rfl (by omega) (by omega) dX3_addTeam_89 (fun H locs hP hD hS => ?_)
            have hP : va_P D vwCl [(mo, oM (upd MF 0 0) g0 t0 z0), (t0, aI cI 174 (tab tv)), (q67, aI cI 9 (upd (upd (upd (upd (upd (fun _ => 0) 0 x) 1 a) 2 (nI n)) 3 4) 4 10))] H := hP
            have hD : va_D A [(mo, oM (upd MF 0 0) g0 t0 z0), (t0, aI cI 174 (tab tv)), (q67, aI cI 9 (upd (upd (upd (upd (upd (fun _ => 0) 0 x) 1 a) 2 (nI n)) 3 4) 4 10))] := hD
            refine lv_dup hx hb dX3_addTeam_90 rfl ?_
            refine lv_iconst (v := 5) hx hb dX3_addTeam_91 (by decide) ?_
            refine lv_iconst (v := 1) hx hb dX3_addTeam_92 (by decide) ?_
            refine sp_iast (i := 5) hx hb hK.1 hP hD hS 2 0 rfl rfl (by omega) (by omega) dX3_addTeam_93 (fun H locs hP hD hS => ?_)
            have hP : va_P D vwCl [(mo, oM (upd MF 0 0) g0 t0 z0), (t0, aI cI 174 (tab tv)), (q67, aI cI 9 (upd (upd (upd (upd (upd (upd (fun _ => 0) 0 x) 1 a) 2 (nI n)) 3 4) 4 10) 5 1))] H := hP
            have hD : va_D A [(mo, oM (upd MF 0 0) g0 t0 z0), (t0, aI cI 174 (tab tv)), (q67, aI cI 9 (upd (upd (upd (upd (upd (upd (fun _ => 0) 0 x) 1 a) 2 (nI n)) 3 4) 4 10) 5 1))] := hD
            refine lv_dup hx hb dX3_addTeam_94 rfl ?_
            refine lv_bipush (v := 6) hx hb dX3_addTeam_95 (by decide) ?_
            refine lv_sipush (v := 200) hx hb dX3_addTeam_97 (by decide) ?_
            refine sp_iast (i := 6) hx hb hK.1 hP hD hS 2 0 rfl rfl (by omega) (by omega) dX3_addTeam_100 (fun H locs hP hD hS => ?_)
            have hP : va_P D vwCl [(mo, oM (upd MF 0 0) g0 t0 z0), (t0, aI cI 174 (tab tv)), (q67, aI cI 9 (upd (upd (upd (upd (upd (upd (upd (fun _ => 0) 0 x) 1 a) 2 (nI n)) 3 4) 4 10) 5 1) 6 200))] H := hP
            have hD : va_D A [(mo, oM (upd MF 0 0) g0 t0 z0), (t0, aI cI 174 (tab tv)), (q67, aI cI 9 (upd (upd (upd (upd (upd (upd (upd (fun _ => 0) 0 x) 1 a) 2 (nI n)) 3 4) 4 10) 5 1) 6 200))] := hD
            refine lv_dup hx hb dX3_addTeam_101 rfl ?_
            refine lv_bipush (v := 7) hx hb dX3_addTeam_102 (by decide) ?_
            refine lv_iconst (v := 5) hx hb dX3_addTeam_104 (by decide) ?_
            refine sp_iast (i := 7) hx hb hK.1 hP hD hS 2 0 rfl rfl (by omega) (by omega) dX3_addTeam_105 (fun H locs hP hD hS => ?_)
            have hP : va_P D vwCl [(mo, oM (upd MF 0 0) g0 t0 z0), (t0, aI cI 174 (tab tv)), (q67, aI cI 9 (upd (upd (upd (upd (upd (upd (upd (upd (fun _ => 0) 0 x) 1 a) 2 (nI n)) 3 4) 4 10) 5 1) 6 200) 7 5))] H := hP
            have hD : va_D A [(mo, oM (upd MF 0 0) g0 t0 z0), (t0, aI cI 174 (tab tv)), (q67, aI cI 9 (upd (upd (upd (upd (upd (upd (upd (upd (fun _ => 0) 0 x) 1 a) 2 (nI n)) 3 4) 4 10) 5 1) 6 200) 7 5))] := hD
            refine lv_dup hx hb dX3_addTeam_106 rfl ?_
            refine lv_bipush (v := 8) hx hb dX3_addTeam_107 (by decide) ?_
            refine lv_bipush (v := 10) hx hb dX3_addTeam_109 (by decide) ?_
            refine sp_iast (i := 8) hx hb hK.1 hP hD hS 2 0 rfl rfl (by omega) (by omega) dX3_addTeam_111 (fun H locs hP hD hS => ?_)
            have hP : va_P D vwCl [(mo, oM (upd MF 0 0) g0 t0 z0), (t0, aI cI 174 (tab tv)), (q67, aI cI 9 (upd (upd (upd (upd (upd (upd (upd (upd (upd (fun _ => 0) 0 x) 1 a) 2 (nI n)) 3 4) 4 10) 5 1) 6 200) 7 5) 8 10))] H := hP
            have hD : va_D A [(mo, oM (upd MF 0 0) g0 t0 z0), (t0, aI cI 174 (tab tv)), (q67, aI cI 9 (upd (upd (upd (upd (upd (upd (upd (upd (upd (fun _ => 0) 0 x) 1 a) 2 (nI n)) 3 4) 4 10) 5 1) 6 200) 7 5) 8 10))] := hD
            refine lv_astore (lv' := [(4, .ref q67), (0, .ref mo), (1, .int x), (2, .int a), (3, .int (nI n))]) hx hb dX3_addTeam_112 hl (by decide) rfl (fun ls hl => ?_)
            refine lv_aload hx hb dX3_addTeam_114 (lv_at hl 0 rfl) ?_
            refine lv_iconst (v := 0) hx hb dX3_addTeam_116 (by decide) ?_
            refine lv_aload_n hx hb dX3_addTeam_117 rfl (lv_at hl 1 rfl) ?_
            refine va_get (D := D) (ci := 3) (v := .ref t0) (C := RX3) (T := TX3) (N := 9) hx hb hts hiX3 hown hK.1 hP 0 rfl rfl 7 (by decide) (hts (.fieldLink RX3 20 "SledgeRaceModel" "table" "[I") (by decide +kernel)) (fun _ h9 => h9) rfl dX3_addTeam_118 ?_
            refine lv_bipush (v := nI 29) hx hb dX3_addTeam_121 (by decide) ?_
            refine lv_aload_n hx hb dX3_addTeam_123 rfl (lv_at hl 1 rfl) ?_
            refine va_get (D := D) (ci := 3) (v := .int (nI nt)) (C := RX3) (T := TX3) (N := 9) hx hb hts hiX3 hown hK.1 hP 0 rfl rfl 2 (by decide) (hts (.fieldLink RX3 29 "SledgeRaceModel" "teams" "I") (by decide +kernel)) (fun _ h9 => h9) (congrArg (fun z => some (Value.int z)) ht) dX3_addTeam_124 ?_
            refine lv_imul hx hb dX3_addTeam_127 ?_
            refine sp_top (pk_mul 29 nt : (nI 29) * (nI nt) = nI (29 * nt)) ?_
            refine lv_aload hx hb dX3_addTeam_128 (lv_at hl 0 rfl) ?_
            refine va_alen hx hb hK.1 hP 2 0 rfl rfl (v := nI 9) rfl dX3_addTeam_130 ?_
            refine sp_copy hx hb (hml.trans hl.1.symm) hown (hts (.methodLink RX3 46 arraycopyName) (by decide +kernel)) (hts (.native arraycopyName) (by decide +kernel)) (hts (.static arraycopyName) (by decide +kernel)) (hts (.initialized "java/lang/System") (by decide +kernel)) hK.1 hP hD hS 2 1 rfl rfl rfl 0 (29 * nt) 9 (by omega) (by omega) (by decide) (by decide) (Nat.le_of_ble_eq_true rfl) (Nat.le_of_ble_eq_true rfl) dX3_addTeam_131 (fun H locs hP hD hS => ?_)
            have hP : va_P D vwCl [(mo, oM (upd MF 0 0) g0 t0 z0), (t0, aI cI 174 (va_cpy (upd (upd (upd (upd (upd (upd (upd (upd (upd (fun _ => 0) 0 x) 1 a) 2 (nI n)) 3 4) 4 10) 5 1) 6 200) 7 5) 8 10) (tab tv) 0 (29 * nt) 9)), (q67, aI cI 9 (upd (upd (upd (upd (upd (upd (upd (upd (upd (fun _ => 0) 0 x) 1 a) 2 (nI n)) 3 4) 4 10) 5 1) 6 200) 7 5) 8 10))] H := hP
            have hD : va_D A [(mo, oM (upd MF 0 0) g0 t0 z0), (t0, aI cI 174 (va_cpy (upd (upd (upd (upd (upd (upd (upd (upd (upd (fun _ => 0) 0 x) 1 a) 2 (nI n)) 3 4) 4 10) 5 1) 6 200) 7 5) 8 10) (tab tv) 0 (29 * nt) 9)), (q67, aI cI 9 (upd (upd (upd (upd (upd (upd (upd (upd (upd (fun _ => 0) 0 x) 1 a) 2 (nI n)) 3 4) 4 10) 5 1) 6 200) 7 5) 8 10))] := hD
            have hcp : va_cpy (mSaid9 x a (nI n)) (tab tv) 0 (29 * nt) 9 = tab (setT tv nt (mNewRow x a (nI n) (tv nt))) := tab_cpy (i := nt) (a := 0) (n := 9) tv (mSaid9 x a (nI n)) (by decide)
            have hP : va_P D vwCl [(mo, oM (upd MF 0 0) g0 t0 z0), (t0, aI cI 174 (tab (setT tv nt (mNewRow x a (nI n) (tv nt))))), (q67, aI cI 9 (upd (upd (upd (upd (upd (upd (upd (upd (upd (fun _ => 0) 0 x) 1 a) 2 (nI n)) 3 4) 4 10) 5 1) 6 200) 7 5) 8 10))] H := by rw [← hcp]; exact hP
            have hD : va_D A [(mo, oM (upd MF 0 0) g0 t0 z0), (t0, aI cI 174 (tab (setT tv nt (mNewRow x a (nI n) (tv nt))))), (q67, aI cI 9 (upd (upd (upd (upd (upd (upd (upd (upd (upd (fun _ => 0) 0 x) 1 a) 2 (nI n)) 3 4) 4 10) 5 1) 6 200) 7 5) 8 10))] := by rw [← hcp]; exact hD
            have hP : va_P D vwCl [(mo, oM (upd MF 0 0) g0 t0 z0), (t0, aI cI 174 (tab (setT tv nt ((mNewRow x a (nI n) (tv nt)).1, (mNewRow x a (nI n) (tv nt)).2.1, (mNewRow x a (nI n) (tv nt)).2.2.1, (mNewRow x a (nI n) (tv nt)).2.2.2)))), (q67, aI cI 9 (upd (upd (upd (upd (upd (upd (upd (upd (upd (fun _ => 0) 0 x) 1 a) 2 (nI n)) 3 4) 4 10) 5 1) 6 200) 7 5) 8 10))] H := hP
            have hD : va_D A [(mo, oM (upd MF 0 0) g0 t0 z0), (t0, aI cI 174 (tab (setT tv nt ((mNewRow x a (nI n) (tv nt)).1, (mNewRow x a (nI n) (tv nt)).2.1, (mNewRow x a (nI n) (tv nt)).2.2.1, (mNewRow x a (nI n) (tv nt)).2.2.2)))), (q67, aI cI 9 (upd (upd (upd (upd (upd (upd (upd (upd (upd (fun _ => 0) 0 x) 1 a) 2 (nI n)) 3 4) 4 10) 5 1) 6 200) 7 5) 8 10))] := hD
            refine lv_aload_n hx hb dX3_addTeam_134 rfl (lv_at hl 1 rfl) ?_
            refine lv_dup hx hb dX3_addTeam_135 rfl ?_
            refine va_get (D := D) (ci := 3) (v := .int (nI nt)) (C := RX3) (T := TX3) (N := 9) hx hb hts hiX3 hown hK.1 hP 0 rfl rfl 2 (by decide) (hts (.fieldLink RX3 29 "SledgeRaceModel" "teams" "I") (by decide +kernel)) (fun _ h9 => h9) (congrArg (fun z => some (Value.int z)) ht) dX3_addTeam_136 ?_
            refine lv_iconst (v := 1) hx hb dX3_addTeam_139 (by decide) ?_
            refine lv_iadd hx hb dX3_addTeam_140 ?_
            refine sp_top (nI_1 nt : (nI nt) + 1 = nI (nt + 1)) ?_
            refine va_put (D := D) (ci := 3) (v := .int (nI (nt + 1))) (ty := .int) (C := RX3) (T := TX3) (N := 9) hx hb hts hiX3 tyX3 tyX3_ok nmX3 hown hK.1 hP hD hS 0 rfl rfl 2 (by decide) (hts (.fieldLink RX3 29 "SledgeRaceModel" "teams" "I") (by decide +kernel)) (fun _ h9 => h9) rfl (by decide +kernel) rfl rfl (Nat.le_of_ble_eq_true rfl) dX3_addTeam_141 (fun H locs hP hD hS => ?_)
            have hP : va_P D vwCl [(mo, oM (upd (upd MF 0 0) 2 (nI (nt + 1))) g0 t0 z0), (t0, aI cI 174 (tab (setT tv nt ((mNewRow x a (nI n) (tv nt)).1, (mNewRow x a (nI n) (tv nt)).2.1, (mNewRow x a (nI n) (tv nt)).2.2.1, (mNewRow x a (nI n) (tv nt)).2.2.2)))), (q67, aI cI 9 (upd (upd (upd (upd (upd (upd (upd (upd (upd (fun _ => 0) 0 x) 1 a) 2 (nI n)) 3 4) 4 10) 5 1) 6 200) 7 5) 8 10))] H := hP
            have hD : va_D A [(mo, oM (upd (upd MF 0 0) 2 (nI (nt + 1))) g0 t0 z0), (t0, aI cI 174 (tab (setT tv nt ((mNewRow x a (nI n) (tv nt)).1, (mNewRow x a (nI n) (tv nt)).2.1, (mNewRow x a (nI n) (tv nt)).2.2.1, (mNewRow x a (nI n) (tv nt)).2.2.2)))), (q67, aI cI 9 (upd (upd (upd (upd (upd (upd (upd (upd (upd (fun _ => 0) 0 x) 1 a) 2 (nI n)) 3 4) 4 10) 5 1) 6 200) 7 5) 8 10))] := hD
            refine lv_aload_n hx hb dX3_addTeam_144 rfl (lv_at hl 1 rfl) ?_
            refine lv_aload_n hx hb dX3_addTeam_145 rfl (lv_at hl 1 rfl) ?_
            refine va_get (D := D) (ci := 3) (v := .int (nI (nt + 1))) (C := RX3) (T := TX3) (N := 9) hx hb hts hiX3 hown hK.1 hP 0 rfl rfl 2 (by decide) (hts (.fieldLink RX3 29 "SledgeRaceModel" "teams" "I") (by decide +kernel)) (fun _ h9 => h9) rfl dX3_addTeam_146 ?_
            refine lv_iconst (v := 1) hx hb dX3_addTeam_149 (by decide) ?_
            refine lv_isub hx hb dX3_addTeam_150 ?_
            refine sp_top (nI_pred nt) ?_
            refine sp_vV (rest := []) (As := [.int (nI nt)]) (W1 := [(mo, oM (upd (upd MF 0 0) 2 (nI (nt + 1))) g0 t0 z0), (t0, aI cI 174 (tab (setT (setT tv nt ((mNewRow x a (nI n) (tv nt)).1, (mNewRow x a (nI n) (tv nt)).2.1, (mNewRow x a (nI n) (tv nt)).2.2.1, (mNewRow x a (nI n) (tv nt)).2.2.2)) nt (mBegin n ((mNewRow x a (nI n) (tv nt)).1, (mNewRow x a (nI n) (tv nt)).2.1, (mNewRow x a (nI n) (tv nt)).2.2.1, (mNewRow x a (nI n) (tv nt)).2.2.2))))), (q67, aI cI 9 (upd (upd (upd (upd (upd (upd (upd (upd (upd (fun _ => 0) 0 x) 1 a) 2 (nI n)) 3 4) 4 10) 5 1) 6 200) 7 5) 8 10))]) ⟨hx, hb, hml, hown, hts⟩ (mX3_begin l D cI cT mo g0 t0 z0 (upd (upd MF 0 0) 2 (nI (nt + 1)))  (setT tv nt ((mNewRow x a (nI n) (tv nt)).1, (mNewRow x a (nI n) (tv nt)).2.1, (mNewRow x a (nI n) (tv nt)).2.2.1, (mNewRow x a (nI n) (tv nt)).2.2.2)) nt (by omega) ((mNewRow x a (nI n) (tv nt)).1) ((mNewRow x a (nI n) (tv nt)).2.1) ((mNewRow x a (nI n) (tv nt)).2.2.1) ((mNewRow x a (nI n) (tv nt)).2.2.2) (setT_i _ _ _) n hn rfl) (cwV 1 hts gX3_addTeam_X3_begin rfl rfl rfl (by decide +kernel) ⟨Nat.le_of_ble_eq_true rfl, Nat.le_of_ble_eq_true rfl⟩) hK hP hD hS [0, 1] rfl (fun k q h => by simp at h) (sp_nsub hN [0, 1] (by decide) rfl) rfl rfl rfl (ci := 3) rfl rfl rfl rfl hl.1 rfl (Nat.le_of_ble_eq_true rfl) dX3_addTeam_151 ⟨Nat.le_of_ble_eq_true rfl, Nat.le_of_ble_eq_true rfl⟩ (fun H locs hP hD hS => ?_)
            rw [setT_setT] at hP hD
            refine lv_aload_n hx hb dX3_addTeam_154 rfl (lv_at hl 1 rfl) ?_
            refine va_get (D := D) (ci := 3) (v := .int (nI (nt + 1))) (C := RX3) (T := TX3) (N := 9) hx hb hts hiX3 hown hK.1 hP 0 rfl rfl 2 (by decide) (hts (.fieldLink RX3 29 "SledgeRaceModel" "teams" "I") (by decide +kernel)) (fun _ h9 => h9) rfl dX3_addTeam_155 ?_
            refine lv_iconst (v := 1) hx hb dX3_addTeam_158 (by decide) ?_
            refine lv_isub hx hb dX3_addTeam_159 ?_
            refine sp_top (nI_pred nt) ?_
            have eq9 : (mAddC x a (nI n) MF nt tv) = (nI nt, upd (upd MF 0 0) 2 (nI (nt + 1)), setT tv nt (mBegin n (mNewRow x a (nI n) (tv nt)))) := by unfold mAddC; rw [if_pos (by rw [c13, c24, c34]; rfl), if_neg (fun q => q.elim c49 (fun z => z c56)), nI_clamp (by omega)]
            refine sp_top (show nI nt = (mAddC x a (nI n) MF nt tv).1 from by rw [eq9]) ?_
            subst hQ
            have hP9 : va_P D vwCl [(mo, oM (mAddC x a (nI n) MF nt tv).2.1 g0 t0 z0), (t0, aI cI 174 (tab (mAddC x a (nI n) MF nt tv).2.2))] H := by rw [eq9]; exact hP.sub [0, 1] rfl
            subst hAe
            exact W.iret hx hb hr (fun t ht hW => ⟨⟨_, (), rfl, rfl, by show va_P D vwCl _ t.heap; rw [ht]; exact hP9⟩, hS.F ht⟩) hS.2.2 dX3_addTeam_160
          · skip
            refine lv_aload_n hx hb dX3_addTeam_59 rfl (lv_at hl 0 rfl) ?_
            refine lv_iconst (v := 2) hx hb dX3_addTeam_60 (by decide) ?_
            refine sp_vI (rest := []) (As := [.int 2]) (W1 := [(mo, oM (upd (upd MF 0 0) 0 2) g0 t0 z0), (t0, aI cI 174 (tab tv))]) ⟨hx, hb, hml, hown, hts⟩ (mX3_fail l D cI cT mo g0 t0 z0 (upd MF 0 0) 2) (cwV 1 hts gX3_addTeam_X3_fail rfl rfl rfl (by decide +kernel) ⟨Nat.le_of_ble_eq_true rfl, Nat.le_of_ble_eq_true rfl⟩) hK hP hD hS [0] rfl (fun k q h => by simp at h) (sp_nsub hN [0] (by decide) rfl) rfl rfl rfl (ci := 3) rfl rfl rfl rfl hl.1 rfl (Nat.le_of_ble_eq_true rfl) dX3_addTeam_61 ⟨Nat.le_of_ble_eq_true rfl, Nat.le_of_ble_eq_true rfl⟩ (fun H locs hP hD hS => ?_)
            have eq9 : (mAddC x a (nI n) MF nt tv) = (0, upd MF 0 2, tv) := by unfold mAddC; rw [if_pos (by rw [c13, c24, c34]; rfl), if_pos (Or.inr c56)]
            refine sp_top (show 0 = (mAddC x a (nI n) MF nt tv).1 from by rw [eq9]) ?_
            refine W.widen (k := 1) (n := 9) (Nat.zero_le _) (Nat.zero_le _) ?_
            subst hQ
            have hP9 : va_P D vwCl [(mo, oM (mAddC x a (nI n) MF nt tv).2.1 g0 t0 z0), (t0, aI cI 174 (tab (mAddC x a (nI n) MF nt tv).2.2))] H := by rw [eq9]; exact hP.sub [0, 1] rfl
            subst hAe
            exact W.iret hx hb hr (fun t ht hW => ⟨⟨_, (), rfl, rfl, by show va_P D vwCl _ t.heap; rw [ht]; exact hP9⟩, hS.F ht⟩) hS.2.2 dX3_addTeam_64
      · skip
        refine lv_aload_n hx hb dX3_addTeam_37 rfl (lv_at hl 0 rfl) ?_
        refine lv_iconst (v := 1) hx hb dX3_addTeam_38 (by decide) ?_
        refine sp_vI (rest := []) (As := [.int 1]) (W1 := [(mo, oM (upd (upd MF 0 0) 0 1) g0 t0 z0), (t0, aI cI 174 (tab tv))]) ⟨hx, hb, hml, hown, hts⟩ (mX3_fail l D cI cT mo g0 t0 z0 (upd MF 0 0) 1) (cwV 1 hts gX3_addTeam_X3_fail rfl rfl rfl (by decide +kernel) ⟨Nat.le_of_ble_eq_true rfl, Nat.le_of_ble_eq_true rfl⟩) hK hP hD hS [0] rfl (fun k q h => by simp at h) (sp_nsub hN [0] (by decide) rfl) rfl rfl rfl (ci := 3) rfl rfl rfl rfl hl.1 rfl (Nat.le_of_ble_eq_true rfl) dX3_addTeam_39 ⟨Nat.le_of_ble_eq_true rfl, Nat.le_of_ble_eq_true rfl⟩ (fun H locs hP hD hS => ?_)
        have eq9 : (mAddC x a b MF nt tv) = (0, upd MF 0 1, tv) := by unfold mAddC; rw [if_neg (by simp [c34])]
        refine sp_top (show 0 = (mAddC x a b MF nt tv).1 from by rw [eq9]) ?_
        refine W.widen (k := 1) (n := 9) (Nat.zero_le _) (Nat.zero_le _) ?_
        subst hQ
        have hP9 : va_P D vwCl [(mo, oM (mAddC x a b MF nt tv).2.1 g0 t0 z0), (t0, aI cI 174 (tab (mAddC x a b MF nt tv).2.2))] H := by rw [eq9]; exact hP.sub [0, 1] rfl
        subst hAe
        exact W.iret hx hb hr (fun t ht hW => ⟨⟨_, (), rfl, rfl, by show va_P D vwCl _ t.heap; rw [ht]; exact hP9⟩, hS.F ht⟩) hS.2.2 dX3_addTeam_42

abbrev rmX3_setCrew : Room := { frames := 2, cells := 1, slots := 4, locals := 43 }
set_option maxHeartbeats 4000000 in
set_option maxRecDepth 100000 in
/-- setCrew -/
theorem mX3_setCrew (l : Launch) (D : va_G) (cI cT : ClassId) (mo g0 t0 z0 : Nat) (MF : Nat → Int32) (sz : Nat) (tv : Nat → TV) (x a b d r : Int32) (nt : Nat) (hnt : nt ≤ 6) (ht : MF 2 = nI nt) : MetIA l D cI cT yX3_setCrew wsX3_setCrew rmX3_setCrew [.ref mo, .int x, .int a, .int b, .int d, .int r] [(mo, oM MF g0 t0 z0), (t0, aI cI 174 (tab tv))] [] [(mo, oM (mCrewC x a b d r MF tv).2.1 g0 t0 z0), (t0, aI cI 174 (tab (mCrewC x a b d r MF tv).2.2))] ((mCrewC x a b d r MF tv).1) 1 4 sz := by
  refine Met.ofW (cc := cX3_setCrew) (maxL := 8) (ret := (some .int)) (by decide) rfl ?_
  intro p e s m args below meth c s₁ B hml hv
  obtain ⟨hargs, hsz, hP, hR0, hK, hN⟩ := hv
  have hx := B.exec
  have hb := B.bytes
  have hr := B.returns
  have hts := atoms_spec (ws := wsX3_setCrew) B.pre
  have hown : s.vm.findClass RX3 = some m.cls := findClass_of_methodNamed B.named
  have hlocks := B.notSynchronized
  have hiX3 : ∀ w ∈ u_ws RX3 TX3 9, w ∈ wsX3_setCrew := by decide +kernel
  have he : entryFrame m args 8 = F0 m 0 ((lg_sl [.ref mo, .int x, .int a, .int b, .int d, .int r] ++ List.replicate (8 - (lg_sl [.ref mo, .int x, .int a, .int b, .int d, .int r]).length) Slot.unset).toArray) [] := by rw [hargs]; exact lg_entry_eq m _ _
  rw [he]
  change W p l e rmX3_setCrew s m args below meth c s.heap [] 0 0 (MQ below (va_Qi (S := Unit) (fun z _ => z = (mCrewC x a b d r MF tv).1) (fun _ t => va_P D vwCl [(mo, oM (mCrewC x a b d r MF tv).2.1 g0 t0 z0), (t0, aI cI 174 (tab (mCrewC x a b d r MF tv).2.2))] t.heap) (frA (List.map Prod.fst [(mo, oM MF g0 t0 z0), (t0, aI cI 174 (tab tv))]) sz)) args s 1 4 (frA (List.map Prod.fst [(mo, oM MF g0 t0 z0), (t0, aI cI 174 (tab tv))]) sz)) _
  obtain ⟨Q, hQ⟩ : ∃ Q, Q = MQ below (va_Qi (S := Unit) (fun z _ => z = (mCrewC x a b d r MF tv).1) (fun _ t => va_P D vwCl [(mo, oM (mCrewC x a b d r MF tv).2.1 g0 t0 z0), (t0, aI cI 174 (tab (mCrewC x a b d r MF tv).2.2))] t.heap) (frA (List.map Prod.fst [(mo, oM MF g0 t0 z0), (t0, aI cI 174 (tab tv))]) sz)) args s 1 4 (frA (List.map Prod.fst [(mo, oM MF g0 t0 z0), (t0, aI cI 174 (tab tv))]) sz) := ⟨_, rfl⟩
  rw [← hQ]
  have hl := lv_entry [.ref mo, .int x, .int a, .int b, .int d, .int r] (n := 8) (Nat.le_of_ble_eq_true rfl)
  generalize (lg_sl [.ref mo, .int x, .int a, .int b, .int d, .int r] ++ List.replicate (8 - (lg_sl [.ref mo, .int x, .int a, .int b, .int d, .int r]).length) Slot.unset).toArray = ls at hl ⊢
  have hl : lv_has ls 8 [(0, .ref mo), (1, .int x), (2, .int a), (3, .int b), (4, .int d), (5, .int r)] := hl
  obtain ⟨A, hAe⟩ : ∃ A, A = (frA (List.map Prod.fst [(mo, oM MF g0 t0 z0), (t0, aI cI 174 (tab tv))]) sz) := ⟨_, rfl⟩
  have hA0 : ∀ q ∈ List.map Prod.fst [(mo, oM MF g0 t0 z0), (t0, aI cI 174 (tab tv))], A q := by rw [hAe]; exact fun q h => Or.inl h
  subst hsz
  have hA : ∀ q : Nat, s.heap.size ≤ q → A q := by rw [hAe]; exact fun q h => Or.inr h
  have hD : va_D A [(mo, oM MF g0 t0 z0), (t0, aI cI 174 (tab tv))] := sp_D (List.nodup_append.mp (show (([(mo, oM MF g0 t0 z0), (t0, aI cI 174 (tab tv))] : va_W).map Prod.fst ++ ([] : va_W).map Prod.fst).Nodup by rw [← List.map_append]; exact hN)).1 hA0
  have hN : (List.map Prod.fst ([(mo, oM MF g0 t0 z0), (t0, aI cI 174 (tab tv))] ++ []) : List Nat).Nodup := hN
  have hS : va_S A s.heap s.heap [] := va_S.rf
  obtain ⟨H, hH0⟩ : ∃ H, H = s.heap := ⟨_, rfl⟩
  obtain ⟨locs, hlo⟩ : ∃ L : List Loc, L = [] := ⟨_, rfl⟩
  have hP : va_P D vwCl [(mo, oM MF g0 t0 z0), (t0, aI cI 174 (tab tv))] H := by rw [hH0]; exact hP
  have hS : va_S A s.heap H locs := by rw [hH0, hlo]; exact hS
  rw [show W p l e rmX3_setCrew s m args below meth c s.heap [] 0 0 Q (F0 m 0 ls []) = W p l e rmX3_setCrew s m args below meth c H locs 0 0 Q (F0 m 0 ls []) by rw [hH0, hlo]]
  clear hH0 hlo
  refine lv_aload_n hx hb dX3_setCrew_0 rfl (lv_at hl 0 rfl) ?_
  refine lv_iconst (v := 0) hx hb dX3_setCrew_1 (by decide) ?_
  refine va_put (D := D) (ci := 3) (v := .int 0) (ty := .int) (C := RX3) (T := TX3) (N := 9) hx hb hts hiX3 tyX3 tyX3_ok nmX3 hown hK.1 hP hD hS 0 rfl rfl 0 (by decide) (hts (.fieldLink RX3 26 "SledgeRaceModel" "thrown" "I") (by decide +kernel)) (fun _ h9 => h9) rfl (by decide +kernel) rfl rfl (Nat.le_of_ble_eq_true rfl) dX3_setCrew_2 (fun H locs hP hD hS => ?_)
  have hP : va_P D vwCl [(mo, oM (upd MF 0 0) g0 t0 z0), (t0, aI cI 174 (tab tv))] H := hP
  have hD : va_D A [(mo, oM (upd MF 0 0) g0 t0 z0), (t0, aI cI 174 (tab tv))] := hD
  refine lv_aload_n hx hb dX3_setCrew_5 rfl (lv_at hl 0 rfl) ?_
  refine lv_iload_n hx hb dX3_setCrew_6 rfl (lv_at hl 1 rfl) ?_
  refine sp_rV (rest := []) (As := [.int x]) ⟨hx, hb, hml, hown, hts⟩ (mX3_isTeam l D cI cT mo g0 t0 z0 (upd MF 0 0) x) (cwV 1 hts gX3_setCrew_X3_isTeam rfl rfl rfl (by decide +kernel) ⟨Nat.le_of_ble_eq_true rfl, Nat.le_of_ble_eq_true rfl⟩) hK (sp_pick hP [0] rfl) (ci := 3) rfl rfl rfl rfl hl.1 rfl (Nat.le_of_ble_eq_true rfl) dX3_setCrew_7 ⟨Nat.le_of_ble_eq_true rfl, Nat.le_of_ble_eq_true rfl⟩ ?_
  refine sp_top (show bI (isIn x 0 ((upd MF 0 0) 2 - 1)) = bI (isIn x 0 (MF 2 - 1)) from rfl) ?_
  refine sp_if_ne (tgt := 19) hx hb dX3_setCrew_10 (by decide) (fun c10 => ?_) (fun c10 => ?_)
  · skip
    obtain ⟨i, hi, rfl⟩ := isIn_nat (b := nt) (by omega) (show isIn x 0 (nI nt - 1) = true from by rw [← ht]; exact c10)
    refine lv_iload_n hx hb dX3_setCrew_19 rfl (lv_at hl 2 rfl) ?_
    refine lv_iconst (v := 1) hx hb dX3_setCrew_20 (by decide) ?_
    refine lv_bipush (v := 9) hx hb dX3_setCrew_21 (by decide) ?_
    refine sp_rS (rest := []) (As := [.int a, .int 1, .int 9]) ⟨hx, hb, hml, hown, hts⟩ (mX3_isIn l D cI cT a 1 9) (va_cwS 3 hts gX3_setCrew_X3_isIn rfl rfl rfl (by decide +kernel) ⟨Nat.le_of_ble_eq_true rfl, Nat.le_of_ble_eq_true rfl⟩) hK (show va_P D vwCl [] _ from fun k q h => by simp at h) rfl hl.1 rfl (Nat.le_of_ble_eq_true rfl) dX3_setCrew_23 ⟨Nat.le_of_ble_eq_true rfl, Nat.le_of_ble_eq_true rfl⟩ ?_
    refine sp_if_eq (tgt := 62) hx hb dX3_setCrew_26 (by decide) (fun c26 => ?_) (fun c26 => ?_)
    · skip
      refine lv_aload_n hx hb dX3_setCrew_62 rfl (lv_at hl 0 rfl) ?_
      refine lv_iconst (v := 2) hx hb dX3_setCrew_63 (by decide) ?_
      refine sp_vI (rest := []) (As := [.int 2]) (W1 := [(mo, oM (upd (upd MF 0 0) 0 2) g0 t0 z0), (t0, aI cI 174 (tab tv))]) ⟨hx, hb, hml, hown, hts⟩ (mX3_fail l D cI cT mo g0 t0 z0 (upd MF 0 0) 2) (cwV 1 hts gX3_setCrew_X3_fail rfl rfl rfl (by decide +kernel) ⟨Nat.le_of_ble_eq_true rfl, Nat.le_of_ble_eq_true rfl⟩) hK hP hD hS [0] rfl (fun k q h => by simp at h) (sp_nsub hN [0] (by decide) rfl) rfl rfl rfl (ci := 3) rfl rfl rfl rfl hl.1 rfl (Nat.le_of_ble_eq_true rfl) dX3_setCrew_64 ⟨Nat.le_of_ble_eq_true rfl, Nat.le_of_ble_eq_true rfl⟩ (fun H locs hP hD hS => ?_)
      have eq9 : (mCrewC (nI i) a b d r MF tv) = (0, upd MF 0 2, tv) := by unfold mCrewC; rw [if_pos c10, if_neg (by simp [c26])]
      refine sp_top (show 0 = (mCrewC (nI i) a b d r MF tv).1 from by rw [eq9]) ?_
      refine W.widen (k := 1) (n := 4) (Nat.zero_le _) (Nat.zero_le _) ?_
      subst hQ
      have hP9 : va_P D vwCl [(mo, oM (mCrewC (nI i) a b d r MF tv).2.1 g0 t0 z0), (t0, aI cI 174 (tab (mCrewC (nI i) a b d r MF tv).2.2))] H := by rw [eq9]; exact hP.sub [0, 1] rfl
      subst hAe
      exact W.iret hx hb hr (fun t ht hW => ⟨⟨_, (), rfl, rfl, by show va_P D vwCl _ t.heap; rw [ht]; exact hP9⟩, hS.F ht⟩) hS.2.2 dX3_setCrew_67
    · skip
      refine lv_iload_n hx hb dX3_setCrew_29 rfl (lv_at hl 3 rfl) ?_
      refine lv_iconst (v := 1) hx hb dX3_setCrew_30 (by decide) ?_
      refine lv_bipush (v := 20) hx hb dX3_setCrew_31 (by decide) ?_
      refine sp_rS (rest := []) (As := [.int b, .int 1, .int 20]) ⟨hx, hb, hml, hown, hts⟩ (mX3_isIn l D cI cT b 1 20) (va_cwS 3 hts gX3_setCrew_X3_isIn rfl rfl rfl (by decide +kernel) ⟨Nat.le_of_ble_eq_true rfl, Nat.le_of_ble_eq_true rfl⟩) hK (show va_P D vwCl [] _ from fun k q h => by simp at h) rfl hl.1 rfl (Nat.le_of_ble_eq_true rfl) dX3_setCrew_33 ⟨Nat.le_of_ble_eq_true rfl, Nat.le_of_ble_eq_true rfl⟩ ?_
      refine sp_if_eq (tgt := 62) hx hb dX3_setCrew_36 (by decide) (fun c36 => ?_) (fun c36 => ?_)
      · skip
        refine lv_aload_n hx hb dX3_setCrew_62 rfl (lv_at hl 0 rfl) ?_
        refine lv_iconst (v := 2) hx hb dX3_setCrew_63 (by decide) ?_
        refine sp_vI (rest := []) (As := [.int 2]) (W1 := [(mo, oM (upd (upd MF 0 0) 0 2) g0 t0 z0), (t0, aI cI 174 (tab tv))]) ⟨hx, hb, hml, hown, hts⟩ (mX3_fail l D cI cT mo g0 t0 z0 (upd MF 0 0) 2) (cwV 1 hts gX3_setCrew_X3_fail rfl rfl rfl (by decide +kernel) ⟨Nat.le_of_ble_eq_true rfl, Nat.le_of_ble_eq_true rfl⟩) hK hP hD hS [0] rfl (fun k q h => by simp at h) (sp_nsub hN [0] (by decide) rfl) rfl rfl rfl (ci := 3) rfl rfl rfl rfl hl.1 rfl (Nat.le_of_ble_eq_true rfl) dX3_setCrew_64 ⟨Nat.le_of_ble_eq_true rfl, Nat.le_of_ble_eq_true rfl⟩ (fun H locs hP hD hS => ?_)
        have eq9 : (mCrewC (nI i) a b d r MF tv) = (0, upd MF 0 2, tv) := by unfold mCrewC; rw [if_pos c10, if_neg (by simp [c36])]
        refine sp_top (show 0 = (mCrewC (nI i) a b d r MF tv).1 from by rw [eq9]) ?_
        refine W.widen (k := 1) (n := 4) (Nat.zero_le _) (Nat.zero_le _) ?_
        subst hQ
        have hP9 : va_P D vwCl [(mo, oM (mCrewC (nI i) a b d r MF tv).2.1 g0 t0 z0), (t0, aI cI 174 (tab (mCrewC (nI i) a b d r MF tv).2.2))] H := by rw [eq9]; exact hP.sub [0, 1] rfl
        subst hAe
        exact W.iret hx hb hr (fun t ht hW => ⟨⟨_, (), rfl, rfl, by show va_P D vwCl _ t.heap; rw [ht]; exact hP9⟩, hS.F ht⟩) hS.2.2 dX3_setCrew_67
      · skip
        refine lv_iload hx hb dX3_setCrew_39 (lv_at hl 4 rfl) ?_
        refine lv_iconst (v := 1) hx hb dX3_setCrew_41 (by decide) ?_
        refine lv_iconst (v := 3) hx hb dX3_setCrew_42 (by decide) ?_
        refine sp_rS (rest := []) (As := [.int d, .int 1, .int 3]) ⟨hx, hb, hml, hown, hts⟩ (mX3_isIn l D cI cT d 1 3) (va_cwS 3 hts gX3_setCrew_X3_isIn rfl rfl rfl (by decide +kernel) ⟨Nat.le_of_ble_eq_true rfl, Nat.le_of_ble_eq_true rfl⟩) hK (show va_P D vwCl [] _ from fun k q h => by simp at h) rfl hl.1 rfl (Nat.le_of_ble_eq_true rfl) dX3_setCrew_43 ⟨Nat.le_of_ble_eq_true rfl, Nat.le_of_ble_eq_true rfl⟩ ?_
        refine sp_if_eq (tgt := 62) hx hb dX3_setCrew_46 (by decide) (fun c46 => ?_) (fun c46 => ?_)
        · skip
          refine lv_aload_n hx hb dX3_setCrew_62 rfl (lv_at hl 0 rfl) ?_
          refine lv_iconst (v := 2) hx hb dX3_setCrew_63 (by decide) ?_
          refine sp_vI (rest := []) (As := [.int 2]) (W1 := [(mo, oM (upd (upd MF 0 0) 0 2) g0 t0 z0), (t0, aI cI 174 (tab tv))]) ⟨hx, hb, hml, hown, hts⟩ (mX3_fail l D cI cT mo g0 t0 z0 (upd MF 0 0) 2) (cwV 1 hts gX3_setCrew_X3_fail rfl rfl rfl (by decide +kernel) ⟨Nat.le_of_ble_eq_true rfl, Nat.le_of_ble_eq_true rfl⟩) hK hP hD hS [0] rfl (fun k q h => by simp at h) (sp_nsub hN [0] (by decide) rfl) rfl rfl rfl (ci := 3) rfl rfl rfl rfl hl.1 rfl (Nat.le_of_ble_eq_true rfl) dX3_setCrew_64 ⟨Nat.le_of_ble_eq_true rfl, Nat.le_of_ble_eq_true rfl⟩ (fun H locs hP hD hS => ?_)
          have eq9 : (mCrewC (nI i) a b d r MF tv) = (0, upd MF 0 2, tv) := by unfold mCrewC; rw [if_pos c10, if_neg (by simp [c46])]
          refine sp_top (show 0 = (mCrewC (nI i) a b d r MF tv).1 from by rw [eq9]) ?_
          refine W.widen (k := 1) (n := 4) (Nat.zero_le _) (Nat.zero_le _) ?_
          subst hQ
          have hP9 : va_P D vwCl [(mo, oM (mCrewC (nI i) a b d r MF tv).2.1 g0 t0 z0), (t0, aI cI 174 (tab (mCrewC (nI i) a b d r MF tv).2.2))] H := by rw [eq9]; exact hP.sub [0, 1] rfl
          subst hAe
          exact W.iret hx hb hr (fun t ht hW => ⟨⟨_, (), rfl, rfl, by show va_P D vwCl _ t.heap; rw [ht]; exact hP9⟩, hS.F ht⟩) hS.2.2 dX3_setCrew_67
        · skip
          refine lv_iload hx hb dX3_setCrew_49 (lv_at hl 5 rfl) ?_
          refine lv_bipush (v := 20) hx hb dX3_setCrew_51 (by decide) ?_
          refine lv_sipush (v := 400) hx hb dX3_setCrew_53 (by decide) ?_
          refine sp_rS (rest := []) (As := [.int r, .int 20, .int 400]) ⟨hx, hb, hml, hown, hts⟩ (mX3_isIn l D cI cT r 20 400) (va_cwS 3 hts gX3_setCrew_X3_isIn rfl rfl rfl (by decide +kernel) ⟨Nat.le_of_ble_eq_true rfl, Nat.le_of_ble_eq_true rfl⟩) hK (show va_P D vwCl [] _ from fun k q h => by simp at h) rfl hl.1 rfl (Nat.le_of_ble_eq_true rfl) dX3_setCrew_56 ⟨Nat.le_of_ble_eq_true rfl, Nat.le_of_ble_eq_true rfl⟩ ?_
          refine sp_if_ne (tgt := 68) hx hb dX3_setCrew_59 (by decide) (fun c59 => ?_) (fun c59 => ?_)
          · skip
            refine lv_aload_n hx hb dX3_setCrew_68 rfl (lv_at hl 0 rfl) ?_
            refine va_get (D := D) (ci := 3) (v := .int (MF 1)) (C := RX3) (T := TX3) (N := 9) hx hb hts hiX3 hown hK.1 hP 0 rfl rfl 1 (by decide) (hts (.fieldLink RX3 40 "SledgeRaceModel" "tick" "I") (by decide +kernel)) (fun _ h9 => h9) rfl dX3_setCrew_69 ?_
            refine lv_if_eq (tgt := 81) hx hb dX3_setCrew_72 (by decide) (fun c72 => ?_) (fun c72 => ?_)
            · skip
              refine lv_aload_n hx hb dX3_setCrew_81 rfl (lv_at hl 0 rfl) ?_
              refine lv_iload_n hx hb dX3_setCrew_82 rfl (lv_at hl 1 rfl) ?_
              refine lv_iconst (v := 3) hx hb dX3_setCrew_83 (by decide) ?_
              refine sp_rV (rest := []) (As := [.int (nI i), .int (nI 3)]) ⟨hx, hb, hml, hown, hts⟩ (mX3_get l D cI cT mo g0 t0 z0 (upd MF 0 0) tv i 3 (((tv i).1) 3) (by omega) (by omega) (rfl)) (cwV 2 hts gX3_setCrew_X3_get rfl rfl rfl (by decide +kernel) ⟨Nat.le_of_ble_eq_true rfl, Nat.le_of_ble_eq_true rfl⟩) hK (sp_pick hP [0, 1] rfl) (ci := 3) rfl rfl rfl rfl hl.1 rfl (Nat.le_of_ble_eq_true rfl) dX3_setCrew_84 ⟨Nat.le_of_ble_eq_true rfl, Nat.le_of_ble_eq_true rfl⟩ ?_
              refine lv_istore (lv' := [(6, .int (((tv i).1) 3)), (0, .ref mo), (1, .int (nI i)), (2, .int a), (3, .int b), (4, .int d), (5, .int r)]) hx hb dX3_setCrew_87 hl (by decide) rfl (fun ls hl => ?_)
              refine lv_iconst (v := 4) hx hb dX3_setCrew_89 (by decide) ?_
              refine sp_newa hx hb (hts (.arrayClass .int) (by decide +kernel)) hK hP hD hS hA 4 rfl (by decide) (Nat.le_of_ble_eq_true rfl) (Nat.le_of_ble_eq_true rfl) dX3_setCrew_90 (fun q90 H hP hD hS => ?_)
              have hP : va_P D vwCl [(mo, oM (upd MF 0 0) g0 t0 z0), (t0, aI cI 174 (tab tv)), (q90, aI cI 4 (fun _ => 0))] H := hP
              have hD : va_D A [(mo, oM (upd MF 0 0) g0 t0 z0), (t0, aI cI 174 (tab tv)), (q90, aI cI 4 (fun _ => 0))] := hD
              refine lv_dup hx hb dX3_setCrew_92 rfl ?_
              refine lv_iconst (v := 0) hx hb dX3_setCrew_93 (by decide) ?_
              refine lv_iload_n hx hb dX3_setCrew_94 rfl (lv_at hl 3 rfl) ?_
              refine sp_iast (i := 0) hx hb hK.1 hP hD hS 2 0 rfl rfl (by omega) (by omega) dX3_setCrew_95 (fun H locs hP hD hS => ?_)
              have hP : va_P D vwCl [(mo, oM (upd MF 0 0) g0 t0 z0), (t0, aI cI 174 (tab tv)), (q90, aI cI 4 (upd (fun _ => 0) 0 a))] H := hP
              have hD : va_D A [(mo, oM (upd MF 0 0) g0 t0 z0), (t0, aI cI 174 (tab tv)), (q90, aI cI 4 (upd (fun _ => 0) 0 a))] := hD
              refine lv_dup hx hb dX3_setCrew_96 rfl ?_
              refine lv_iconst (v := 1) hx hb dX3_setCrew_97 (by decide) ?_
              refine lv_iload_n hx hb dX3_setCrew_98 rfl (lv_at hl 4 rfl) ?_
              refine sp_iast (i := 1) hx hb hK.1 hP hD hS 2 0 rfl rfl (by omega) (by omega) dX3_setCrew_99 (fun H locs hP hD hS => ?_)
              have hP : va_P D vwCl [(mo, oM (upd MF 0 0) g0 t0 z0), (t0, aI cI 174 (tab tv)), (q90, aI cI 4 (upd (upd (fun _ => 0) 0 a) 1 b))] H := hP
              have hD : va_D A [(mo, oM (upd MF 0 0) g0 t0 z0), (t0, aI cI 174 (tab tv)), (q90, aI cI 4 (upd (upd (fun _ => 0) 0 a) 1 b))] := hD
              refine lv_dup hx hb dX3_setCrew_100 rfl ?_
              refine lv_iconst (v := 2) hx hb dX3_setCrew_101 (by decide) ?_
              refine lv_iload hx hb dX3_setCrew_102 (lv_at hl 5 rfl) ?_
              refine sp_iast (i := 2) hx hb hK.1 hP hD hS 2 0 rfl rfl (by omega) (by omega) dX3_setCrew_104 (fun H locs hP hD hS => ?_)
              have hP : va_P D vwCl [(mo, oM (upd MF 0 0) g0 t0 z0), (t0, aI cI 174 (tab tv)), (q90, aI cI 4 (upd (upd (upd (fun _ => 0) 0 a) 1 b) 2 d))] H := hP
              have hD : va_D A [(mo, oM (upd MF 0 0) g0 t0 z0), (t0, aI cI 174 (tab tv)), (q90, aI cI 4 (upd (upd (upd (fun _ => 0) 0 a) 1 b) 2 d))] := hD
              refine lv_dup hx hb dX3_setCrew_105 rfl ?_
              refine lv_iconst (v := 3) hx hb dX3_setCrew_106 (by decide) ?_
              refine lv_iload hx hb dX3_setCrew_107 (lv_at hl 6 rfl) ?_
              refine sp_iast (i := 3) hx hb hK.1 hP hD hS 2 0 rfl rfl (by omega) (by omega) dX3_setCrew_109 (fun H locs hP hD hS => ?_)
              have hP : va_P D vwCl [(mo, oM (upd MF 0 0) g0 t0 z0), (t0, aI cI 174 (tab tv)), (q90, aI cI 4 (upd (upd (upd (upd (fun _ => 0) 0 a) 1 b) 2 d) 3 r))] H := hP
              have hD : va_D A [(mo, oM (upd MF 0 0) g0 t0 z0), (t0, aI cI 174 (tab tv)), (q90, aI cI 4 (upd (upd (upd (upd (fun _ => 0) 0 a) 1 b) 2 d) 3 r))] := hD
              refine lv_astore (lv' := [(7, .ref q90), (6, .int (((tv i).1) 3)), (0, .ref mo), (1, .int (nI i)), (2, .int a), (3, .int b), (4, .int d), (5, .int r)]) hx hb dX3_setCrew_110 hl (by decide) rfl (fun ls hl => ?_)
              refine lv_aload hx hb dX3_setCrew_112 (lv_at hl 0 rfl) ?_
              refine lv_iconst (v := 0) hx hb dX3_setCrew_114 (by decide) ?_
              refine lv_aload_n hx hb dX3_setCrew_115 rfl (lv_at hl 2 rfl) ?_
              refine va_get (D := D) (ci := 3) (v := .ref t0) (C := RX3) (T := TX3) (N := 9) hx hb hts hiX3 hown hK.1 hP 0 rfl rfl 7 (by decide) (hts (.fieldLink RX3 20 "SledgeRaceModel" "table" "[I") (by decide +kernel)) (fun _ h9 => h9) rfl dX3_setCrew_116 ?_
              refine lv_bipush (v := nI 29) hx hb dX3_setCrew_119 (by decide) ?_
              refine lv_iload_n hx hb dX3_setCrew_121 rfl (lv_at hl 3 rfl) ?_
              refine lv_imul hx hb dX3_setCrew_122 ?_
              refine sp_top (pk_mul 29 i : (nI 29) * (nI i) = nI (29 * i)) ?_
              refine lv_iconst (v := nI 3) hx hb dX3_setCrew_123 (by decide) ?_
              refine lv_iadd hx hb dX3_setCrew_124 ?_
              refine sp_top (nI_add (29 * i) 3 : (nI (29 * i)) + (nI 3) = nI (29 * i + 3)) ?_
              refine lv_iconst (v := 4) hx hb dX3_setCrew_125 (by decide) ?_
              refine sp_copy hx hb (hml.trans hl.1.symm) hown (hts (.methodLink RX3 46 arraycopyName) (by decide +kernel)) (hts (.native arraycopyName) (by decide +kernel)) (hts (.static arraycopyName) (by decide +kernel)) (hts (.initialized "java/lang/System") (by decide +kernel)) hK.1 hP hD hS 2 1 rfl rfl rfl 0 (29 * i + 3) 4 (by omega) (by omega) (by decide) (by decide) (Nat.le_of_ble_eq_true rfl) (Nat.le_of_ble_eq_true rfl) dX3_setCrew_126 (fun H locs hP hD hS => ?_)
              have hP : va_P D vwCl [(mo, oM (upd MF 0 0) g0 t0 z0), (t0, aI cI 174 (va_cpy (upd (upd (upd (upd (fun _ => 0) 0 a) 1 b) 2 d) 3 r) (tab tv) 0 (29 * i + 3) 4)), (q90, aI cI 4 (upd (upd (upd (upd (fun _ => 0) 0 a) 1 b) 2 d) 3 r))] H := hP
              have hD : va_D A [(mo, oM (upd MF 0 0) g0 t0 z0), (t0, aI cI 174 (va_cpy (upd (upd (upd (upd (fun _ => 0) 0 a) 1 b) 2 d) 3 r) (tab tv) 0 (29 * i + 3) 4)), (q90, aI cI 4 (upd (upd (upd (upd (fun _ => 0) 0 a) 1 b) 2 d) 3 r))] := hD
              have hcp : va_cpy (mSaid4 a b d r) (tab tv) 0 (29 * i + 3) 4 = tab (setT tv i ((fun j => if 3 ≤ j ∧ j < 3 + 4 then mSaid4 a b d r (j - 3) else (tv i).1 j), (tv i).2)) := tab_cpy (i := i) (a := 3) (n := 4) tv (mSaid4 a b d r) (by decide)
              have hP : va_P D vwCl [(mo, oM (upd MF 0 0) g0 t0 z0), (t0, aI cI 174 (tab (setT tv i ((fun j => if 3 ≤ j ∧ j < 3 + 4 then mSaid4 a b d r (j - 3) else (tv i).1 j), (tv i).2.1, (tv i).2.2.1, (tv i).2.2.2)))), (q90, aI cI 4 (upd (upd (upd (upd (fun _ => 0) 0 a) 1 b) 2 d) 3 r))] H := by show va_P D vwCl [(mo, oM (upd MF 0 0) g0 t0 z0), (t0, aI cI 174 (tab (setT tv i ((fun j => if 3 ≤ j ∧ j < 3 + 4 then mSaid4 a b d r (j - 3) else (tv i).1 j), (tv i).2)))), (q90, aI cI 4 (upd (upd (upd (upd (fun _ => 0) 0 a) 1 b) 2 d) 3 r))] H; rw [← hcp]; exact hP
              have hD : va_D A [(mo, oM (upd MF 0 0) g0 t0 z0), (t0, aI cI 174 (tab (setT tv i ((fun j => if 3 ≤ j ∧ j < 3 + 4 then mSaid4 a b d r (j - 3) else (tv i).1 j), (tv i).2.1, (tv i).2.2.1, (tv i).2.2.2)))), (q90, aI cI 4 (upd (upd (upd (upd (fun _ => 0) 0 a) 1 b) 2 d) 3 r))] := sp_Dsame (by rfl) hD
              refine lv_aload_n hx hb dX3_setCrew_129 rfl (lv_at hl 2 rfl) ?_
              refine lv_iload_n hx hb dX3_setCrew_130 rfl (lv_at hl 3 rfl) ?_
              refine lv_bipush (v := 11) hx hb dX3_setCrew_131 (by decide) ?_
              refine lv_iload hx hb dX3_setCrew_133 (lv_at hl 7 rfl) ?_
              refine sp_vV (rest := []) (As := [.int (nI i), .int (nI 11), .int r]) (W1 := [(mo, oM (upd MF 0 0) g0 t0 z0), (t0, aI cI 174 (tab (setT (setT tv i ((fun j => if 3 ≤ j ∧ j < 3 + 4 then mSaid4 a b d r (j - 3) else (tv i).1 j), (tv i).2.1, (tv i).2.2.1, (tv i).2.2.2)) i (upd (fun j => if 3 ≤ j ∧ j < 3 + 4 then mSaid4 a b d r (j - 3) else (tv i).1 j) 11 r, (tv i).2.1, (tv i).2.2.1, (tv i).2.2.2)))), (q90, aI cI 4 (upd (upd (upd (upd (fun _ => 0) 0 a) 1 b) 2 d) 3 r))]) ⟨hx, hb, hml, hown, hts⟩ (mX3_set l D cI cT mo g0 t0 z0 (upd MF 0 0) (setT tv i ((fun j => if 3 ≤ j ∧ j < 3 + 4 then mSaid4 a b d r (j - 3) else (tv i).1 j), (tv i).2.1, (tv i).2.2.1, (tv i).2.2.2)) i 11 r (upd (fun j => if 3 ≤ j ∧ j < 3 + 4 then mSaid4 a b d r (j - 3) else (tv i).1 j) 11 r, (tv i).2.1, (tv i).2.2.1, (tv i).2.2.2) (by omega) (by omega) (fun b _ => by rw [setT_i _ _ _]; exact rs_F (by decide) b)) (cwV 3 hts gX3_setCrew_X3_set rfl rfl rfl (by decide +kernel) ⟨Nat.le_of_ble_eq_true rfl, Nat.le_of_ble_eq_true rfl⟩) hK hP hD hS [0, 1] rfl (fun k q h => by simp at h) (sp_nsub hN [0, 1] (by decide) rfl) rfl rfl rfl (ci := 3) rfl rfl rfl rfl hl.1 rfl (Nat.le_of_ble_eq_true rfl) dX3_setCrew_135 ⟨Nat.le_of_ble_eq_true rfl, Nat.le_of_ble_eq_true rfl⟩ (fun H locs hP hD hS => ?_)
              rw [setT_setT] at hP hD
              refine lv_iload hx hb dX3_setCrew_138 (lv_at hl 1 rfl) ?_
              have eq9 : (mCrewC (nI i) a b d r MF tv) = ((tv i).1 3, upd MF 0 0, setT tv i (mCrewRow a b d r (tv i))) := by unfold mCrewC; rw [if_pos c10, if_pos (by rw [c26, c36, c46, c59]; rfl), if_pos c72, nI_clamp (by omega)]
              refine sp_top (show ((tv i).1) 3 = (mCrewC (nI i) a b d r MF tv).1 from by rw [eq9]) ?_
              subst hQ
              have hP9 : va_P D vwCl [(mo, oM (mCrewC (nI i) a b d r MF tv).2.1 g0 t0 z0), (t0, aI cI 174 (tab (mCrewC (nI i) a b d r MF tv).2.2))] H := by rw [eq9]; exact hP.sub [0, 1] rfl
              subst hAe
              exact W.iret hx hb hr (fun t ht hW => ⟨⟨_, (), rfl, rfl, by show va_P D vwCl _ t.heap; rw [ht]; exact hP9⟩, hS.F ht⟩) hS.2.2 dX3_setCrew_140
            · skip
              refine lv_aload_n hx hb dX3_setCrew_75 rfl (lv_at hl 0 rfl) ?_
              refine lv_iconst (v := 3) hx hb dX3_setCrew_76 (by decide) ?_
              refine sp_vI (rest := []) (As := [.int 3]) (W1 := [(mo, oM (upd (upd MF 0 0) 0 3) g0 t0 z0), (t0, aI cI 174 (tab tv))]) ⟨hx, hb, hml, hown, hts⟩ (mX3_fail l D cI cT mo g0 t0 z0 (upd MF 0 0) 3) (cwV 1 hts gX3_setCrew_X3_fail rfl rfl rfl (by decide +kernel) ⟨Nat.le_of_ble_eq_true rfl, Nat.le_of_ble_eq_true rfl⟩) hK hP hD hS [0] rfl (fun k q h => by simp at h) (sp_nsub hN [0] (by decide) rfl) rfl rfl rfl (ci := 3) rfl rfl rfl rfl hl.1 rfl (Nat.le_of_ble_eq_true rfl) dX3_setCrew_77 ⟨Nat.le_of_ble_eq_true rfl, Nat.le_of_ble_eq_true rfl⟩ (fun H locs hP hD hS => ?_)
              have eq9 : (mCrewC (nI i) a b d r MF tv) = (0, upd MF 0 3, tv) := by unfold mCrewC; rw [if_pos c10, if_pos (by rw [c26, c36, c46, c59]; rfl), if_neg c72]
              refine sp_top (show 0 = (mCrewC (nI i) a b d r MF tv).1 from by rw [eq9]) ?_
              refine W.widen (k := 1) (n := 4) (Nat.zero_le _) (Nat.zero_le _) ?_
              subst hQ
              have hP9 : va_P D vwCl [(mo, oM (mCrewC (nI i) a b d r MF tv).2.1 g0 t0 z0), (t0, aI cI 174 (tab (mCrewC (nI i) a b d r MF tv).2.2))] H := by rw [eq9]; exact hP.sub [0, 1] rfl
              subst hAe
              exact W.iret hx hb hr (fun t ht hW => ⟨⟨_, (), rfl, rfl, by show va_P D vwCl _ t.heap; rw [ht]; exact hP9⟩, hS.F ht⟩) hS.2.2 dX3_setCrew_80
          · skip
            refine lv_aload_n hx hb dX3_setCrew_62 rfl (lv_at hl 0 rfl) ?_
            refine lv_iconst (v := 2) hx hb dX3_setCrew_63 (by decide) ?_
            refine sp_vI (rest := []) (As := [.int 2]) (W1 := [(mo, oM (upd (upd MF 0 0) 0 2) g0 t0 z0), (t0, aI cI 174 (tab tv))]) ⟨hx, hb, hml, hown, hts⟩ (mX3_fail l D cI cT mo g0 t0 z0 (upd MF 0 0) 2) (cwV 1 hts gX3_setCrew_X3_fail rfl rfl rfl (by decide +kernel) ⟨Nat.le_of_ble_eq_true rfl, Nat.le_of_ble_eq_true rfl⟩) hK hP hD hS [0] rfl (fun k q h => by simp at h) (sp_nsub hN [0] (by decide) rfl) rfl rfl rfl (ci := 3) rfl rfl rfl rfl hl.1 rfl (Nat.le_of_ble_eq_true rfl) dX3_setCrew_64 ⟨Nat.le_of_ble_eq_true rfl, Nat.le_of_ble_eq_true rfl⟩ (fun H locs hP hD hS => ?_)
            have eq9 : (mCrewC (nI i) a b d r MF tv) = (0, upd MF 0 2, tv) := by unfold mCrewC; rw [if_pos c10, if_neg (by simp [c59])]
            refine sp_top (show 0 = (mCrewC (nI i) a b d r MF tv).1 from by rw [eq9]) ?_
            refine W.widen (k := 1) (n := 4) (Nat.zero_le _) (Nat.zero_le _) ?_
            subst hQ
            have hP9 : va_P D vwCl [(mo, oM (mCrewC (nI i) a b d r MF tv).2.1 g0 t0 z0), (t0, aI cI 174 (tab (mCrewC (nI i) a b d r MF tv).2.2))] H := by rw [eq9]; exact hP.sub [0, 1] rfl
            subst hAe
            exact W.iret hx hb hr (fun t ht hW => ⟨⟨_, (), rfl, rfl, by show va_P D vwCl _ t.heap; rw [ht]; exact hP9⟩, hS.F ht⟩) hS.2.2 dX3_setCrew_67
  · skip
    refine lv_aload_n hx hb dX3_setCrew_13 rfl (lv_at hl 0 rfl) ?_
    refine lv_iconst (v := 1) hx hb dX3_setCrew_14 (by decide) ?_
    refine sp_vI (rest := []) (As := [.int 1]) (W1 := [(mo, oM (upd (upd MF 0 0) 0 1) g0 t0 z0), (t0, aI cI 174 (tab tv))]) ⟨hx, hb, hml, hown, hts⟩ (mX3_fail l D cI cT mo g0 t0 z0 (upd MF 0 0) 1) (cwV 1 hts gX3_setCrew_X3_fail rfl rfl rfl (by decide +kernel) ⟨Nat.le_of_ble_eq_true rfl, Nat.le_of_ble_eq_true rfl⟩) hK hP hD hS [0] rfl (fun k q h => by simp at h) (sp_nsub hN [0] (by decide) rfl) rfl rfl rfl (ci := 3) rfl rfl rfl rfl hl.1 rfl (Nat.le_of_ble_eq_true rfl) dX3_setCrew_15 ⟨Nat.le_of_ble_eq_true rfl, Nat.le_of_ble_eq_true rfl⟩ (fun H locs hP hD hS => ?_)
    have eq9 : (mCrewC x a b d r MF tv) = (0, upd MF 0 1, tv) := by unfold mCrewC; rw [if_neg (by rw [c10]; decide)]
    refine sp_top (show 0 = (mCrewC x a b d r MF tv).1 from by rw [eq9]) ?_
    refine W.widen (k := 1) (n := 4) (Nat.zero_le _) (Nat.zero_le _) ?_
    subst hQ
    have hP9 : va_P D vwCl [(mo, oM (mCrewC x a b d r MF tv).2.1 g0 t0 z0), (t0, aI cI 174 (tab (mCrewC x a b d r MF tv).2.2))] H := by rw [eq9]; exact hP.sub [0, 1] rfl
    subst hAe
    exact W.iret hx hb hr (fun t ht hW => ⟨⟨_, (), rfl, rfl, by show va_P D vwCl _ t.heap; rw [ht]; exact hP9⟩, hS.F ht⟩) hS.2.2 dX3_setCrew_18
