/-! p20: the law builds both sides -/
abbrev rmL_build : Room := { frames := 8, cells := 200, slots := 2000, locals := 160 }
set_option maxHeartbeats 8000000 in
set_option maxRecDepth 100000 in
theorem mL_build (l : Launch) (D : va_G) (cI cT cL cG cZ : ClassId) (hl9 : l.stackTraces = false) (sz : Nat) (r tr k1 k2 k3 ts b L : Nat) (ad : Nat → Nat → Nat) (T : Nat → TV) (xs : Nat → Int32) (hL : L ≤ 260) : Met l yL_build wsL_build rmL_build (BuP D cI cT cL cG cZ [.ref r, .ref b] (wRace cI cT r tr k1 k2 k3 ts ad 0 0 cTrackF (fun _ => 0) (fun _ => 0) (upd (fun _ => 0) 0 2) T) b L xs sz) (va_Qr (S := Unit) (fun _ => True) (fun _ ra t => ∃ W', BuQ cI cT cL r tr k1 k2 k3 ts ra W' ∧ va_P D vwCl W' t.heap ∧ va_D (frA ((wRace cI cT r tr k1 k2 k3 ts ad 0 0 cTrackF (fun _ => 0) (fun _ => 0) (upd (fun _ => 0) 0 2) T).map Prod.fst) sz) W') (frA ((wRace cI cT r tr k1 k2 k3 ts ad 0 0 cTrackF (fun _ => 0) (fun _ => 0) (upd (fun _ => 0) 0 2) T).map Prod.fst) sz)) 200 2000 (frA ((wRace cI cT r tr k1 k2 k3 ts ad 0 0 cTrackF (fun _ => 0) (fun _ => 0) (upd (fun _ => 0) 0 2) T).map Prod.fst) sz) := by
  refine Met.ofW (cc := cL_build) (maxL := 8) (ret := (some (.object "SledgeRaceLaw$Sim"))) (by decide) rfl ?_
  intro p e s m args below meth c s₁ B hml hv
  obtain ⟨⟨⟨hargs, hsz, hP, hR0, hK0, hN⟩, hXZ, hXS⟩, hX, hXs, hbn⟩ := hv
  subst hsz
  have hx := B.exec
  have hb := B.bytes
  have hr := B.returns
  have hts := atoms_spec (ws := wsL_build) B.pre
  have hown : s.vm.findClass RL = some m.cls := findClass_of_methodNamed B.named
  have hlocks := B.notSynchronized
  have hiX3 : ∀ w ∈ u_ws RX3 TX3 5, w ∈ wsL_build := by decide +kernel
  have hiX4 : ∀ w ∈ u_ws RX4 TX4 17, w ∈ wsL_build := by decide +kernel
  have he : entryFrame m args 8 = F0 m 0 ((lg_sl [.ref r, .ref b] ++ List.replicate (8 - (lg_sl [.ref r, .ref b]).length) Slot.unset).toArray) [] := by rw [hargs]; exact lg_entry_eq m _ _
  rw [he]
  obtain ⟨A, hAe⟩ : ∃ A, A = (frA ((wRace cI cT r tr k1 k2 k3 ts ad 0 0 cTrackF (fun _ => 0) (fun _ => 0) (upd (fun _ => 0) 0 2) T).map Prod.fst) s.heap.size) := ⟨_, rfl⟩
  change W p l e rmL_build s m args below meth c s.heap [] 0 0 (MQ below (va_Qr (S := Unit) (fun _ => True) (fun _ ra t => ∃ W', BuQ cI cT cL r tr k1 k2 k3 ts ra W' ∧ va_P D vwCl W' t.heap ∧ va_D (frA ((wRace cI cT r tr k1 k2 k3 ts ad 0 0 cTrackF (fun _ => 0) (fun _ => 0) (upd (fun _ => 0) 0 2) T).map Prod.fst) s.heap.size) W') (frA ((wRace cI cT r tr k1 k2 k3 ts ad 0 0 cTrackF (fun _ => 0) (fun _ => 0) (upd (fun _ => 0) 0 2) T).map Prod.fst) s.heap.size)) args s 200 2000 (frA ((wRace cI cT r tr k1 k2 k3 ts ad 0 0 cTrackF (fun _ => 0) (fun _ => 0) (upd (fun _ => 0) 0 2) T).map Prod.fst) s.heap.size)) _
  rw [← hAe]
  have hXZ : XZ A s s.heap := by rw [hAe]; exact hXZ
  obtain ⟨Q, hQ⟩ : ∃ Q, Q = MQ below (va_Qr (S := Unit) (fun _ => True) (fun _ ra t => ∃ W', BuQ cI cT cL r tr k1 k2 k3 ts ra W' ∧ va_P D vwCl W' t.heap ∧ va_D A W') A) args s 200 2000 A := ⟨_, rfl⟩
  rw [← hQ]
  have hl := lv_entry [.ref r, .ref b] (n := 8) (Nat.le_of_ble_eq_true rfl)
  generalize (lg_sl [.ref r, .ref b] ++ List.replicate (8 - (lg_sl [.ref r, .ref b]).length) Slot.unset).toArray = ls at hl ⊢
  have hl : lv_has ls 8 [(0, .ref r), (1, .ref b)] := hl
  have hA : ∀ q : Nat, s.heap.size ≤ q → A q := by rw [hAe]; exact fun q h => Or.inr h
  have hbl : b < s.heap.size := by obtain ⟨scr, h1, -⟩ := hXs; exact (Array.getElem?_eq_some_iff.mp h1).1
  have hbA : ¬ A b := by rw [hAe]; exact fun z => z.elim (fun z => hbn z) (fun z => absurd hbl (Nat.not_lt.mpr z))
  have hD : va_D A (wRace cI cT r tr k1 k2 k3 ts ad 0 0 cTrackF (fun _ => 0) (fun _ => 0) (upd (fun _ => 0) 0 2) T) := sp_D (by rw [List.append_nil] at hN; exact hN) (by rw [hAe]; exact fun q h => Or.inl h)
  have hS : va_S A s.heap s.heap [] := va_S.rf
  obtain ⟨H, hH0⟩ : ∃ H, H = s.heap := ⟨_, rfl⟩
  obtain ⟨locs, hlo⟩ : ∃ L : List Loc, L = [] := ⟨_, rfl⟩
  have hP : va_P D vwCl (wRace cI cT r tr k1 k2 k3 ts ad 0 0 cTrackF (fun _ => 0) (fun _ => 0) (upd (fun _ => 0) 0 2) T) H := by rw [hH0]; exact hP
  have hS : va_S A s.heap H locs := by rw [hH0, hlo]; exact hS
  rw [show W p l e rmL_build s m args below meth c s.heap [] 0 0 Q (F0 m 0 ls []) = W p l e rmL_build s m args below meth c H locs 0 0 Q (F0 m 0 ls []) by rw [hH0, hlo]]
  clear hH0 hlo
  refine va_new (ci := 3) (fs := [.int 0, .int 0, .int 0, .null, .null]) (C := RX3) (T := TX3) (N := 5) hx hb hts hiX3 tyX3 tyX3_ok hown (hts (.classLink RL 9 RX3) (by decide +kernel)) (hts (.instantiable RX3 5) (by decide +kernel)) (hts (.initialized RX3) (by decide +kernel)) hX.2.1 hP hD hS hA rfl (fun j hj => match j, hj with | 0, _ => rfl | 1, _ => rfl | 2, _ => rfl | 3, _ => rfl | 4, _ => rfl | _ + 5, h => absurd h (by omega)) (show 0 + 1 ≤ 200 by omega) (show 0 + 5 ≤ 2000 by omega) dL_build_0 (fun sm H hP hD hS => ?_)
  have hP := pl_rot hP
  have hD := pl_rotD hD
  have hP : va_P D vwCl ([(sm, oSv 0 0 0 .null .null)] ++ wRace cI cT r tr k1 k2 k3 ts ad 0 0 cTrackF (fun _ => 0) (fun _ => 0) (upd (fun _ => 0) 0 2) T) H := hP
  have hD : va_D A ([(sm, oSv 0 0 0 .null .null)] ++ wRace cI cT r tr k1 k2 k3 ts ad 0 0 cTrackF (fun _ => 0) (fun _ => 0) (upd (fun _ => 0) 0 2) T) := hD
  refine lv_dup hx hb dL_build_3 rfl ?_
  refine pl_iK (w := [(sm, oSv 0 0 0 .null .null)]) (W0 := wRace cI cT r tr k1 k2 k3 ts ad 0 0 cTrackF (fun _ => 0) (fun _ => 0) (upd (fun _ => 0) 0 2) T) (rest := [.ref sm]) (As := []) ⟨hx, hb, hml, hown, hts⟩ (mX3_init l D cI cT cL cG cZ H.size sm) ⟨va_cnB 0 hts gL_build_X3_init_n11 rfl rfl rfl hX.2.2.2.2.2.1 (hts (.initialized RX3) (by decide +kernel)) (by decide +kernel) ⟨Nat.le_of_ble_eq_true rfl, Nat.le_of_ble_eq_true rfl⟩, rfl, (hts (.instanceMethod yX3_init) (by decide +kernel))⟩ hX hP hD hS hA rfl hl.1 rfl (Nat.le_of_ble_eq_true rfl) dL_build_4 ⟨show 0 + 1 + 3 ≤ 200 by omega, show 0 + 5 + 4 ≤ 2000 by omega⟩ (fun u H locs hgood hP hD hS => ?_)
  obtain ⟨g0, tt0, a9, f3⟩ := u
  have hgood : f3 0 = 0 := hgood
  obtain ⟨hP, hD⟩ := pl_perm (A := [(sm, oSv 0 500 0 (.ref g0) (.ref tt0)), (tt0, aQ cL 0 (fun _ => none)), (g0, aQ cG 1 (va_up (fun _ => none) 0 (some a9))), (a9, aI cI 3 f3)]) (A' := [(sm, oSv 0 500 0 (.ref g0) (.ref tt0)), (g0, aQ cG 1 (va_up (fun _ => none) 0 (some a9))), (a9, aI cI 3 f3)]) hP hD [0, 2, 3] (by decide) rfl
  have hP : va_P D vwCl (([(sm, oSv 0 500 0 (.ref g0) (.ref tt0)), (g0, aQ cG 1 (va_up (fun _ => none) 0 (some a9)))] ++ [(a9, aI cI 3 f3)]) ++ wRace cI cT r tr k1 k2 k3 ts ad 0 0 cTrackF (fun _ => 0) (fun _ => 0) (upd (fun _ => 0) 0 2) T) H := hP
  have hD : va_D A (([(sm, oSv 0 500 0 (.ref g0) (.ref tt0)), (g0, aQ cG 1 (va_up (fun _ => none) 0 (some a9)))] ++ [(a9, aI cI 3 f3)]) ++ wRace cI cT r tr k1 k2 k3 ts ad 0 0 cTrackF (fun _ => 0) (fun _ => 0) (upd (fun _ => 0) 0 2) T) := hD
  refine lv_astore_n (lv' := [(2, .ref sm), (0, .ref r), (1, .ref b)]) hx hb dL_build_7 rfl hl (by decide) rfl (fun ls hl => ?_)
  refine lv_aload_n hx hb dL_build_8 rfl (lv_at hl 0 rfl) ?_
  refine lv_bipush (v := nI 100) hx hb dL_build_9 (by decide) ?_
  refine lv_aload_n hx hb dL_build_11 rfl (lv_at hl 2 rfl) ?_
  refine lv_iconst (v := nI 0) hx hb dL_build_12 (by decide) ?_
  refine pl_cel (rest := [.int (nI 100), .ref sm]) (As := [.ref b, .int (nI (0))]) ⟨hx, hb, hml, hown, hts⟩ (mL_cell l b L (0) xs hL (by omega)) (va_cwS 2 hts gL_build_L_cell rfl rfl rfl (by decide +kernel) ⟨Nat.le_of_ble_eq_true rfl, Nat.le_of_ble_eq_true rfl⟩) hXs hbl hbA hS rfl hl.1 rfl (Nat.le_of_ble_eq_true rfl) dL_build_13 ⟨show 0 + 1 + 3 ≤ 200 by omega, show 0 + 5 + 4 ≤ 2000 by omega⟩ ?_
  refine lv_topi (fun x0 ex0 => ?_)
  clear ex0
  refine lv_sipush (v := nI 700) hx hb dL_build_16 (by decide) ?_
  obtain ⟨j0, ej0⟩ : ∃ j, j = bel (x0) 700 := ⟨_, rfl⟩
  have hj0 : j0 < 700 := by rw [ej0]; exact bel_lt _ (by decide)
  refine sp_rS (rest := [.int (nI 100), .ref sm]) (As := [.int (x0), .int (nI 700)]) ⟨hx, hb, hml, hown, hts⟩ (mL_below l D cI cT (x0) 700 (by decide) (by decide)) (va_cwS 2 hts gL_build_L_below rfl rfl rfl (by decide +kernel) ⟨Nat.le_of_ble_eq_true rfl, Nat.le_of_ble_eq_true rfl⟩) hX.1 (show va_P D vwCl [] _ from fun k q h => by simp at h) rfl hl.1 rfl (Nat.le_of_ble_eq_true rfl) dL_build_19 ⟨show 0 + 1 + 3 ≤ 200 by omega, show 0 + 5 + 4 ≤ 2000 by omega⟩ ?_
  refine sp_top (show nI (bel (x0) 700) = nI j0 from by rw [ej0]) ?_
  refine lv_iadd hx hb dL_build_22 ?_
  refine sp_top (show (nI 100) + (nI j0) = nI (100 + j0) from nI_add 100 j0) ?_
  obtain ⟨len, hlen⟩ : ∃ len, len = 100 + j0 := ⟨_, rfl⟩
  refine sp_top (show nI (100 + j0) = nI len from by rw [hlen]) ?_
  refine va_put (D := D) (ci := 3) (v := .int (nI len)) (ty := .int) (C := RX3) (T := TX3) (N := 5) hx hb hts hiX3 tyX3 tyX3_ok nmX3 hown hX.2.1 hP hD hS 0 rfl rfl 1 (by decide) (hts (.fieldLink RL 22 "SledgeRaceLaw$Sim" "track" "I") (by decide +kernel)) (fun _ h9 => h9) rfl (by decide +kernel) rfl rfl (Nat.le_of_ble_eq_true rfl) dL_build_23 (fun H locs hP hD hS => ?_)
  have hP : va_P D vwCl (([(sm, oSv 0 (nI len) 0 (.ref g0) (.ref tt0)), (g0, aQ cG 1 (va_up (fun _ => none) 0 (some a9)))] ++ [(a9, aI cI 3 f3)]) ++ wRace cI cT r tr k1 k2 k3 ts ad 0 0 cTrackF (fun _ => 0) (fun _ => 0) (upd (fun _ => 0) 0 2) T) H := hP
  have hD : va_D A (([(sm, oSv 0 (nI len) 0 (.ref g0) (.ref tt0)), (g0, aQ cG 1 (va_up (fun _ => none) 0 (some a9)))] ++ [(a9, aI cI 3 f3)]) ++ wRace cI cT r tr k1 k2 k3 ts ad 0 0 cTrackF (fun _ => 0) (fun _ => 0) (upd (fun _ => 0) 0 2) T) := hD
  refine lv_aload_n hx hb dL_build_26 rfl (lv_at hl 1 rfl) ?_
  refine lv_aload_n hx hb dL_build_27 rfl (lv_at hl 0 rfl) ?_
  refine va_get (D := D) (ci := 3) (v := .int (nI len)) (C := RX3) (T := TX3) (N := 5) hx hb hts hiX3 hown hX.2.1 hP 0 rfl rfl 1 (by decide) (hts (.fieldLink RL 22 "SledgeRaceLaw$Sim" "track" "I") (by decide +kernel)) (fun _ h9 => h9) rfl dL_build_28 ?_
  refine pl_sO (W0 := ([(sm, oSv 0 (nI len) 0 (.ref g0) (.ref tt0)), (g0, aQ cG 1 (va_up (fun _ => none) 0 (some a9)))] ++ [(a9, aI cI 3 f3)])) (w' := wRace cI cT r tr k1 k2 k3 ts ad 0 0 (upd cTrackF 4 (nI len)) (fun _ => 0) (fun _ => 0) (upd (fun _ => 0) 0 2) T) (rest := []) (As := [.int (nI len)]) ⟨hx, hb, hml, hown, hts⟩ (mX2_setLength l D cI cT hl9 H.size r tr k1 k2 k3 ts ad 0 (by decide) 0 cTrackF (fun _ => 0) (fun _ => 0) (upd (fun _ => 0) 0 2) T (nI len)) (cwV 1 hts gL_build_X2_setLength rfl rfl rfl (by decide +kernel) ⟨Nat.le_of_ble_eq_true rfl, Nat.le_of_ble_eq_true rfl⟩) (len_res ⟨by omega, by omega⟩ _) hX.1 hXZ hXS hP hD hS hA (xb_fst rfl cI ad _ _ _) (ci := 2) rfl rfl rfl rfl hl.1 rfl (Nat.le_of_ble_eq_true rfl) dL_build_31 ⟨by decide, by decide⟩ ⟨show 0 + 1 + 3 + 2 ≤ 200 by omega, show 0 + 5 + 4 + 12 ≤ 2000 by omega⟩ (fun H locs hP hD hS => ?_)
  have hP : va_P D vwCl ((([(sm, oSv 0 (nI len) 0 (.ref g0) (.ref tt0)), (g0, aQ cG 1 (va_up (fun _ => none) 0 (some a9)))] ++ [(a9, aI cI 3 f3)])) ++ wRace cI cT r tr k1 k2 k3 ts ad 0 0 (upd cTrackF 4 (nI len)) (fun _ => 0) (fun _ => 0) (upd (fun _ => 0) 0 2) T) H := hP
  have hD : va_D A ((([(sm, oSv 0 (nI len) 0 (.ref g0) (.ref tt0)), (g0, aQ cG 1 (va_up (fun _ => none) 0 (some a9)))] ++ [(a9, aI cI 3 f3)])) ++ wRace cI cT r tr k1 k2 k3 ts ad 0 0 (upd cTrackF 4 (nI len)) (fun _ => 0) (fun _ => 0) (upd (fun _ => 0) 0 2) T) := hD
  refine sp_top (show cTrackF 4 = 500 from rfl) ?_
  refine lv_sipush (v := 500) hx hb dL_build_34 (by decide) ?_
  refine lv_icmp_eq (tgt := 42) hx hb dL_build_37 (by decide) (fun _ => ?_) (fun c => absurd rfl c)
  refine lv_aload_n hx hb dL_build_42 rfl (lv_at hl 2 rfl) ?_
  refine lv_iconst (v := nI 0) hx hb dL_build_43 (by decide) ?_
  refine pl_cel (rest := []) (As := [.ref b, .int (nI (0))]) ⟨hx, hb, hml, hown, hts⟩ (mL_cell l b L (0) xs hL (by omega)) (va_cwS 2 hts gL_build_L_cell rfl rfl rfl (by decide +kernel) ⟨Nat.le_of_ble_eq_true rfl, Nat.le_of_ble_eq_true rfl⟩) hXs hbl hbA hS rfl hl.1 rfl (Nat.le_of_ble_eq_true rfl) dL_build_44 ⟨show 0 + 1 + 3 + 2 ≤ 200 by omega, show 0 + 5 + 4 + 12 ≤ 2000 by omega⟩ ?_
  refine lv_topi (fun x1 ex1 => ?_)
  clear ex1
  refine lv_iconst (v := nI 5) hx hb dL_build_47 (by decide) ?_
  refine lv_ishr hx hb dL_build_48 ?_
  refine lv_bipush (v := nI 8) hx hb dL_build_49 (by decide) ?_
  obtain ⟨j1, ej1⟩ : ∃ j, j = bel (x1 >>> ((nI 5) &&& 31)) 8 := ⟨_, rfl⟩
  have hj1 : j1 < 8 := by rw [ej1]; exact bel_lt _ (by decide)
  refine sp_rS (rest := []) (As := [.int (x1 >>> ((nI 5) &&& 31)), .int (nI 8)]) ⟨hx, hb, hml, hown, hts⟩ (mL_below l D cI cT (x1 >>> ((nI 5) &&& 31)) 8 (by decide) (by decide)) (va_cwS 2 hts gL_build_L_below rfl rfl rfl (by decide +kernel) ⟨Nat.le_of_ble_eq_true rfl, Nat.le_of_ble_eq_true rfl⟩) hX.1 (show va_P D vwCl [] _ from fun k q h => by simp at h) rfl hl.1 rfl (Nat.le_of_ble_eq_true rfl) dL_build_51 ⟨show 0 + 1 + 3 + 2 ≤ 200 by omega, show 0 + 5 + 4 + 12 ≤ 2000 by omega⟩ ?_
  refine sp_top (show nI (bel (x1 >>> ((nI 5) &&& 31)) 8) = nI j1 from by rw [ej1]) ?_
  refine lv_istore_n (lv' := [(3, .int (nI j1)), (2, .ref sm), (0, .ref r), (1, .ref b)]) hx hb dL_build_54 rfl hl (by decide) rfl (fun ls hl => ?_)
  refine lv_iconst (v := nI 0) hx hb dL_build_55 (by decide) ?_
  refine lv_istore (lv' := [(4, .int (nI 0)), (3, .int (nI j1)), (2, .ref sm), (0, .ref r), (1, .ref b)]) hx hb dL_build_56 hl (by decide) rfl (fun ls hl => ?_)
  have loop195 : ∀ (n4 ns tt : Nat) (g9 : Value) (KF S U V : Nat → Int32), 1 ≤ n4 → n4 ≤ 4 → KF 4 = nI len → TrkI KF U V ns → ∀ (fu k : Nat), n4 - k < fu → k ≤ n4 → ∀ (f : Nat → Option Nat) (LW : va_W) (ad : Nat → Nat → Nat) (T : Nat → TV) (c1 s1 : Nat), (∀ i, i < k → LTs cI f LW T i) → c1 ≤ 60 + 20 * k → s1 ≤ 400 + 150 * k → ∀ (H : Heap) (locs : List Loc), va_P D vwCl (([(sm, oSv 0 (nI len) 0 g9 (.ref tt)), (tt, aQ cL n4 f)] ++ LW) ++ wRace cI cT r tr k1 k2 k3 ts ad k 0 KF S U V T) H → va_D A (([(sm, oSv 0 (nI len) 0 g9 (.ref tt)), (tt, aQ cL n4 f)] ++ LW) ++ wRace cI cT r tr k1 k2 k3 ts ad k 0 KF S U V T) → va_S A s.heap H locs → ∀ (ls : Array Slot), lv_has ls 8 [(5, .int (nI k)), (4, .int (nI n4)), (3, .int (nI j1)), (2, .ref sm), (0, .ref r), (1, .ref b)] → W p l e rmL_build s m args below meth c H locs  c1 s1 Q (F0 m 195 ls []) := by
    intro n4 ns tt g9 KF S U V hn1 hn4 hKF4 hTk fu
    induction fu with
    | zero => intro k hfu; exact absurd hfu (Nat.not_lt_zero _)
    | succ fu ih =>
      intro k hfu hk f LW ad T c1 s1 hLT hc1 hs1 H locs hP hD hS ls hl
      refine lv_iload hx hb dL_build_195 (lv_at hl 0 rfl) ?_
      refine lv_iload hx hb dL_build_197 (lv_at hl 1 rfl) ?_
      refine sp_ge (by omega) (by omega) (tgt := 488) hx hb dL_build_199 (by decide) (fun hc9 => ?_) (fun hc9 => ?_)
      · skip
        refine lv_aload_n hx hb dL_build_488 rfl (lv_at hl 3 rfl) ?_
        have ek : k = n4 := by omega
        subst ek
        have hP9 := hP
        have hD9 := hD
        subst hQ
        refine W.widen (k := 200) (n := 2000) (by omega) (by omega) ?_
        exact W.aret hx hb hr (Or.inl ⟨_, rfl⟩) (Or.inr ⟨_, rfl⟩) (fun t ht hW => ⟨⟨(), _, rfl, trivial, _, ⟨tt, k, ns, len, g9, f, LW, ad, KF, S, U, V, T, rfl, ⟨by omega, by omega⟩, ⟨by omega, by omega⟩, hKF4, hTk, hLT⟩, by rw [ht]; exact hP9, hD9⟩, by subst hAe; exact hS.F ht⟩) (by subst hAe; exact hS.2.2) dL_build_489
      · skip
        refine lv_aload_n hx hb dL_build_202 rfl (lv_at hl 5 rfl) ?_
        refine lv_bipush (v := nI 10) hx hb dL_build_203 (by decide) ?_
        refine lv_iload hx hb dL_build_205 (lv_at hl 0 rfl) ?_
        refine lv_iadd hx hb dL_build_207 ?_
        refine sp_top (show (nI 10) + (nI k) = nI (10 + k) from nI_add 10 k) ?_
        refine pl_cel (rest := []) (As := [.ref b, .int (nI (10 + k))]) ⟨hx, hb, hml, hown, hts⟩ (mL_cell l b L (10 + k) xs hL (by omega)) (va_cwS 2 hts gL_build_L_cell rfl rfl rfl (by decide +kernel) ⟨Nat.le_of_ble_eq_true rfl, Nat.le_of_ble_eq_true rfl⟩) hXs hbl hbA hS rfl hl.1 rfl (Nat.le_of_ble_eq_true rfl) dL_build_208 ⟨show c1 ≤ 200 by omega, show s1 ≤ 2000 by omega⟩ ?_
        refine lv_topi (fun x ex => ?_)
        clear ex
        refine lv_istore (lv' := [(6, .int x), (5, .int (nI k)), (4, .int (nI n4)), (3, .int (nI j1)), (2, .ref sm), (0, .ref r), (1, .ref b)]) hx hb dL_build_211 hl (by decide) rfl (fun ls hl => ?_)
        refine va_new (ci := 4) (fs := [.int 0, .int 0, .int 0, .int 0, .int 0, .int 0, .int 0, .int 0, .int 0, .int 0, .int 0, .int 0, .int 0, .null, .null, .null, .null]) (C := RX4) (T := TX4) (N := 17) hx hb hts hiX4 tyX4 tyX4_ok hown (hts (.classLink RL 43 RX4) (by decide +kernel)) (hts (.instantiable RX4 17) (by decide +kernel)) (hts (.initialized RX4) (by decide +kernel)) hX.2.1 hP hD hS hA rfl (fun j hj => match j, hj with | 0, _ => rfl | 1, _ => rfl | 2, _ => rfl | 3, _ => rfl | 4, _ => rfl | 5, _ => rfl | 6, _ => rfl | 7, _ => rfl | 8, _ => rfl | 9, _ => rfl | 10, _ => rfl | 11, _ => rfl | 12, _ => rfl | 13, _ => rfl | 14, _ => rfl | 15, _ => rfl | 16, _ => rfl | _ + 17, h => absurd h (by omega)) (show c1 + 1 ≤ 200 by omega) (show s1 + 17 ≤ 2000 by omega) dL_build_213 (fun ty H hP hD hS => ?_)
        have hP := pl_rot hP
        have hD := pl_rotD hD
        refine lv_dup hx hb dL_build_216 rfl ?_
        refine pl_iK (w := [(ty, oYv (fun _ => 0) .null .null .null .null)]) (W0 := ([(sm, oSv 0 (nI len) 0 g9 (.ref tt)), (tt, aQ cL n4 f)] ++ LW) ++ wRace cI cT r tr k1 k2 k3 ts ad k 0 KF S U V T) (rest := [.ref ty]) (As := []) ⟨hx, hb, hml, hown, hts⟩ (mX4_init l D cI cT cL cG cZ H.size ty) ⟨va_cnB 0 hts gL_build_X4_init_n49 rfl rfl rfl hX.2.2.2.2.2.2 (hts (.initialized RX4) (by decide +kernel)) (by decide +kernel) ⟨Nat.le_of_ble_eq_true rfl, Nat.le_of_ble_eq_true rfl⟩, rfl, (hts (.instanceMethod yX4_init) (by decide +kernel))⟩ hX hP hD hS hA rfl hl.1 rfl (Nat.le_of_ble_eq_true rfl) dL_build_217 ⟨show c1 + 1 + 2 ≤ 200 by omega, show s1 + 17 + 2 ≤ 2000 by omega⟩ (fun u H locs hgood hP hD hS => ?_)
        obtain ⟨F1, h1, l1⟩ := u
        have hP : va_P D vwCl ((ty, oYv (F1) .null .null (.ref h1) (.ref l1)) :: (([(sm, oSv 0 (nI len) 0 g9 (.ref tt)), (tt, aQ cL n4 f)] ++ LW) ++ wRace cI cT r tr k1 k2 k3 ts ad k 0 KF S U V T)) H := hP
        have hD : va_D A ((ty, oYv (F1) .null .null (.ref h1) (.ref l1)) :: (([(sm, oSv 0 (nI len) 0 g9 (.ref tt)), (tt, aQ cL n4 f)] ++ LW) ++ wRace cI cT r tr k1 k2 k3 ts ad k 0 KF S U V T)) := hD
        refine lv_astore (lv' := [(7, .ref ty), (6, .int x), (5, .int (nI k)), (4, .int (nI n4)), (3, .int (nI j1)), (2, .ref sm), (0, .ref r), (1, .ref b)]) hx hb dL_build_220 hl (by decide) rfl (fun ls hl => ?_)
        refine lv_aload hx hb dL_build_222 (lv_at hl 0 rfl) ?_
        refine lv_bipush (v := nI 20) hx hb dL_build_224 (by decide) ?_
        refine lv_iload hx hb dL_build_226 (lv_at hl 1 rfl) ?_
        refine lv_bipush (v := nI 61) hx hb dL_build_228 (by decide) ?_
        obtain ⟨jl, ejl⟩ : ∃ j, j = bel (x) 61 := ⟨_, rfl⟩
        have hjl : jl < 61 := by rw [ejl]; exact bel_lt _ (by decide)
        refine sp_rS (rest := [.int (nI 20), .ref ty]) (As := [.int (x), .int (nI 61)]) ⟨hx, hb, hml, hown, hts⟩ (mL_below l D cI cT (x) 61 (by decide) (by decide)) (va_cwS 2 hts gL_build_L_below rfl rfl rfl (by decide +kernel) ⟨Nat.le_of_ble_eq_true rfl, Nat.le_of_ble_eq_true rfl⟩) hX.1 (show va_P D vwCl [] _ from fun k q h => by simp at h) rfl hl.1 rfl (Nat.le_of_ble_eq_true rfl) dL_build_230 ⟨show c1 + 1 + 2 ≤ 200 by omega, show s1 + 17 + 2 ≤ 2000 by omega⟩ ?_
        refine sp_top (show nI (bel (x) 61) = nI jl from by rw [ejl]) ?_
        refine lv_iadd hx hb dL_build_233 ?_
        refine sp_top (show (nI 20) + (nI jl) = nI (20 + jl) from nI_add 20 jl) ?_
        obtain ⟨ln, hln⟩ : ∃ z, z = 20 + jl := ⟨_, rfl⟩
        refine sp_top (show nI (20 + jl) = nI ln from by rw [hln]) ?_
        refine va_put (D := D) (ci := 4) (v := .int (nI ln)) (ty := .int) (C := RX4) (T := TX4) (N := 17) hx hb hts hiX4 tyX4 tyX4_ok nmX4 hown hX.2.1 hP hD hS 0 rfl rfl 0 (by decide) (hts (.fieldLink RL 50 "SledgeRaceLaw$Team" "length" "I") (by decide +kernel)) (fun _ h9 => h9) rfl (by decide +kernel) rfl rfl (Nat.le_of_ble_eq_true rfl) dL_build_234 (fun H locs hP hD hS => ?_)
        have hP : va_P D vwCl ((ty, oYv (upd (F1) 0 (nI ln)) .null .null (.ref h1) (.ref l1)) :: (([(sm, oSv 0 (nI len) 0 g9 (.ref tt)), (tt, aQ cL n4 f)] ++ LW) ++ wRace cI cT r tr k1 k2 k3 ts ad k 0 KF S U V T)) H := hP
        have hD : va_D A ((ty, oYv (upd (F1) 0 (nI ln)) .null .null (.ref h1) (.ref l1)) :: (([(sm, oSv 0 (nI len) 0 g9 (.ref tt)), (tt, aQ cL n4 f)] ++ LW) ++ wRace cI cT r tr k1 k2 k3 ts ad k 0 KF S U V T)) := hD
        refine lv_aload hx hb dL_build_237 (lv_at hl 0 rfl) ?_
        refine lv_bipush (v := nI 10) hx hb dL_build_239 (by decide) ?_
        refine lv_iload hx hb dL_build_241 (lv_at hl 1 rfl) ?_
        refine lv_iconst (v := 3) hx hb dL_build_243 (by decide) ?_
        refine lv_ishr hx hb dL_build_244 ?_
        refine lv_bipush (v := 90) hx hb dL_build_245 (by decide) ?_
        obtain ⟨jw, ejw⟩ : ∃ j, j = bel (x >>> (3 &&& 31)) 90 := ⟨_, rfl⟩
        have hjw : jw < 90 := by rw [ejw]; exact bel_lt _ (by decide)
        refine sp_rS (rest := [.int (nI 10), .ref ty]) (As := [.int (x >>> (3 &&& 31)), .int (nI 90)]) ⟨hx, hb, hml, hown, hts⟩ (mL_below l D cI cT (x >>> (3 &&& 31)) 90 (by decide) (by decide)) (va_cwS 2 hts gL_build_L_below rfl rfl rfl (by decide +kernel) ⟨Nat.le_of_ble_eq_true rfl, Nat.le_of_ble_eq_true rfl⟩) hX.1 (show va_P D vwCl [] _ from fun k q h => by simp at h) rfl hl.1 rfl (Nat.le_of_ble_eq_true rfl) dL_build_247 ⟨show c1 + 1 + 2 ≤ 200 by omega, show s1 + 17 + 2 ≤ 2000 by omega⟩ ?_
        refine sp_top (show nI (bel (x >>> (3 &&& 31)) 90) = nI jw from by rw [ejw]) ?_
        refine lv_iadd hx hb dL_build_250 ?_
        refine sp_top (show (nI 10) + (nI jw) = nI (10 + jw) from nI_add 10 jw) ?_
        obtain ⟨wt, hwt⟩ : ∃ z, z = 10 + jw := ⟨_, rfl⟩
        refine sp_top (show nI (10 + jw) = nI wt from by rw [hwt]) ?_
        refine va_put (D := D) (ci := 4) (v := .int (nI wt)) (ty := .int) (C := RX4) (T := TX4) (N := 17) hx hb hts hiX4 tyX4 tyX4_ok nmX4 hown hX.2.1 hP hD hS 0 rfl rfl 1 (by decide) (hts (.fieldLink RL 53 "SledgeRaceLaw$Team" "weight" "I") (by decide +kernel)) (fun _ h9 => h9) rfl (by decide +kernel) rfl rfl (Nat.le_of_ble_eq_true rfl) dL_build_251 (fun H locs hP hD hS => ?_)
        have hP : va_P D vwCl ((ty, oYv (upd (upd (F1) 0 (nI ln)) 1 (nI wt)) .null .null (.ref h1) (.ref l1)) :: (([(sm, oSv 0 (nI len) 0 g9 (.ref tt)), (tt, aQ cL n4 f)] ++ LW) ++ wRace cI cT r tr k1 k2 k3 ts ad k 0 KF S U V T)) H := hP
        have hD : va_D A ((ty, oYv (upd (upd (F1) 0 (nI ln)) 1 (nI wt)) .null .null (.ref h1) (.ref l1)) :: (([(sm, oSv 0 (nI len) 0 g9 (.ref tt)), (tt, aQ cL n4 f)] ++ LW) ++ wRace cI cT r tr k1 k2 k3 ts ad k 0 KF S U V T)) := hD
        refine lv_aload hx hb dL_build_254 (lv_at hl 0 rfl) ?_
        refine lv_iconst (v := nI 2) hx hb dL_build_256 (by decide) ?_
        refine lv_iload hx hb dL_build_257 (lv_at hl 1 rfl) ?_
        refine lv_iconst (v := 5) hx hb dL_build_259 (by decide) ?_
        refine lv_ishr hx hb dL_build_260 ?_
        refine lv_bipush (v := nI 7) hx hb dL_build_261 (by decide) ?_
        obtain ⟨jr, ejr⟩ : ∃ j, j = bel (x >>> (5 &&& 31)) 7 := ⟨_, rfl⟩
        have hjr : jr < 7 := by rw [ejr]; exact bel_lt _ (by decide)
        refine sp_rS (rest := [.int (nI 2), .ref ty]) (As := [.int (x >>> (5 &&& 31)), .int (nI 7)]) ⟨hx, hb, hml, hown, hts⟩ (mL_below l D cI cT (x >>> (5 &&& 31)) 7 (by decide) (by decide)) (va_cwS 2 hts gL_build_L_below rfl rfl rfl (by decide +kernel) ⟨Nat.le_of_ble_eq_true rfl, Nat.le_of_ble_eq_true rfl⟩) hX.1 (show va_P D vwCl [] _ from fun k q h => by simp at h) rfl hl.1 rfl (Nat.le_of_ble_eq_true rfl) dL_build_263 ⟨show c1 + 1 + 2 ≤ 200 by omega, show s1 + 17 + 2 ≤ 2000 by omega⟩ ?_
        refine sp_top (show nI (bel (x >>> (5 &&& 31)) 7) = nI jr from by rw [ejr]) ?_
        refine lv_iadd hx hb dL_build_266 ?_
        refine sp_top (show (nI 2) + (nI jr) = nI (2 + jr) from nI_add 2 jr) ?_
        obtain ⟨nr, hnr⟩ : ∃ z, z = 2 + jr := ⟨_, rfl⟩
        refine sp_top (show nI (2 + jr) = nI nr from by rw [hnr]) ?_
        refine pl_newi hx hb (hts (.arrayClass .int) (by decide +kernel)) hX.1 hP hD hS hA nr rfl (by omega) (show c1 + 1 + 2 + 1 ≤ 200 by omega) (show s1 + 17 + 2 + nr ≤ 2000 by omega) dL_build_267 (fun ra H hP hD hS => ?_)
        have hP : va_P D vwCl ((ra, aI cI nr (fun _ => 0)) :: (ty, oYv (upd (upd (F1) 0 (nI ln)) 1 (nI wt)) .null .null (.ref h1) (.ref l1)) :: (([(sm, oSv 0 (nI len) 0 g9 (.ref tt)), (tt, aQ cL n4 f)] ++ LW) ++ wRace cI cT r tr k1 k2 k3 ts ad k 0 KF S U V T)) H := hP
        have hD : va_D A ((ra, aI cI nr (fun _ => 0)) :: (ty, oYv (upd (upd (F1) 0 (nI ln)) 1 (nI wt)) .null .null (.ref h1) (.ref l1)) :: (([(sm, oSv 0 (nI len) 0 g9 (.ref tt)), (tt, aQ cL n4 f)] ++ LW) ++ wRace cI cT r tr k1 k2 k3 ts ad k 0 KF S U V T)) := hD
        refine va_put (D := D) (ci := 4) (v := .ref ra) (ty := (.array .int)) (C := RX4) (T := TX4) (N := 17) hx hb hts hiX4 tyX4 tyX4_ok nmX4 hown hX.2.1 hP hD hS 1 rfl rfl 13 (by decide) (hts (.fieldLink RL 56 "SledgeRaceLaw$Team" "rollers" "[I") (by decide +kernel)) (fun _ h9 => h9) rfl (by decide +kernel) rfl rfl (Nat.le_of_ble_eq_true rfl) dL_build_269 (fun H locs hP hD hS => ?_)
        have hP : va_P D vwCl ((ra, aI cI nr (fun _ => 0)) :: (ty, oYv (upd (upd (F1) 0 (nI ln)) 1 (nI wt)) (.ref ra) .null (.ref h1) (.ref l1)) :: (([(sm, oSv 0 (nI len) 0 g9 (.ref tt)), (tt, aQ cL n4 f)] ++ LW) ++ wRace cI cT r tr k1 k2 k3 ts ad k 0 KF S U V T)) H := hP
        have hD : va_D A ((ra, aI cI nr (fun _ => 0)) :: (ty, oYv (upd (upd (F1) 0 (nI ln)) 1 (nI wt)) (.ref ra) .null (.ref h1) (.ref l1)) :: (([(sm, oSv 0 (nI len) 0 g9 (.ref tt)), (tt, aQ cL n4 f)] ++ LW) ++ wRace cI cT r tr k1 k2 k3 ts ad k 0 KF S U V T)) := hD
        refine lv_aload_n hx hb dL_build_272 rfl (lv_at hl 6 rfl) ?_
        refine lv_aload hx hb dL_build_273 (lv_at hl 0 rfl) ?_
        refine va_get (D := D) (ci := 4) (v := .int (nI ln)) (C := RX4) (T := TX4) (N := 17) hx hb hts hiX4 hown hX.2.1 hP 1 rfl rfl 0 (by decide) (hts (.fieldLink RL 50 "SledgeRaceLaw$Team" "length" "I") (by decide +kernel)) (fun _ h9 => h9) rfl dL_build_275 ?_
        refine lv_aload hx hb dL_build_278 (lv_at hl 0 rfl) ?_
        refine va_get (D := D) (ci := 4) (v := .int (nI wt)) (C := RX4) (T := TX4) (N := 17) hx hb hts hiX4 hown hX.2.1 hP 1 rfl rfl 1 (by decide) (hts (.fieldLink RL 53 "SledgeRaceLaw$Team" "weight" "I") (by decide +kernel)) (fun _ h9 => h9) rfl dL_build_280 ?_
        refine lv_aload hx hb dL_build_283 (lv_at hl 0 rfl) ?_
        refine va_get (D := D) (ci := 4) (v := .ref ra) (C := RX4) (T := TX4) (N := 17) hx hb hts hiX4 hown hX.2.1 hP 1 rfl rfl 13 (by decide) (hts (.fieldLink RL 56 "SledgeRaceLaw$Team" "rollers" "[I") (by decide +kernel)) (fun _ h9 => h9) rfl dL_build_285 ?_
        refine va_alen hx hb hX.2.1 hP 0 0 rfl rfl (v := nI nr) rfl dL_build_288 ?_
        refine pl_sN (W0 := [(ra, aI cI nr (fun _ => 0)), (ty, oYv (upd (upd (F1) 0 (nI ln)) 1 (nI wt)) (.ref ra) .null (.ref h1) (.ref l1)), (sm, oSv 0 (nI len) 0 g9 (.ref tt)), (tt, aQ cL n4 f)] ++ LW) (wn := fun u => wRace cI cT r tr k1 k2 k3 ts (adN ad k u) (k + 1) 0 KF S U V (setT T (k + 2) (cTeamNew (nI k) (nI ln) (nI wt) (nI nr).toNatClampNeg))) (rest := []) (As := [.int (nI ln), .int (nI wt), .int (nI nr)]) ⟨hx, hb, hml, hown, hts⟩ (mX2_addTeam l D cI cT hl9 H.size r tr k1 k2 k3 ts ad k (by omega) 0 KF S U V T (nI ln) (nI wt) (nI nr)) (cwV 3 hts gL_build_X2_addTeam rfl rfl rfl (by decide +kernel) ⟨Nat.le_of_ble_eq_true rfl, Nat.le_of_ble_eq_true rfl⟩) (add_res (by omega) ⟨by omega, by omega⟩ ⟨by omega, by omega⟩ ⟨by omega, by omega⟩) hX.1 hXZ hXS hP hD hS hA (ci := 2) rfl rfl rfl rfl hl.1 rfl (Nat.le_of_ble_eq_true rfl) dL_build_289 ⟨show c1 + 1 + 2 + 1 + 5 ≤ 200 by omega, show s1 + 17 + 2 + nr + 40 ≤ 2000 by omega⟩ (fun u H locs hu hP hD hS => ?_)
        obtain ⟨ad1, had1⟩ : ∃ z, z = adN ad k u := ⟨_, rfl⟩
        obtain ⟨T1, hT1⟩ : ∃ z, z = setT T (k + 2) (cTeamNew (nI k) (nI ln) (nI wt) nr) := ⟨_, rfl⟩
        have ecl : (nI nr).toNatClampNeg = nr := nI_clamp (by omega)
        have hP : va_P D vwCl ((ra, aI cI nr (fun _ => 0)) :: (ty, oYv (upd (upd (F1) 0 (nI ln)) 1 (nI wt)) (.ref ra) .null (.ref h1) (.ref l1)) :: (([(sm, oSv 0 (nI len) 0 g9 (.ref tt)), (tt, aQ cL n4 f)] ++ LW) ++ wRace cI cT r tr k1 k2 k3 ts ad1 (k + 1) 0 KF S U V T1)) H := by rw [had1, hT1]; rw [ecl] at hP; exact hP
        have hD : va_D A ((ra, aI cI nr (fun _ => 0)) :: (ty, oYv (upd (upd (F1) 0 (nI ln)) 1 (nI wt)) (.ref ra) .null (.ref h1) (.ref l1)) :: (([(sm, oSv 0 (nI len) 0 g9 (.ref tt)), (tt, aQ cL n4 f)] ++ LW) ++ wRace cI cT r tr k1 k2 k3 ts ad1 (k + 1) 0 KF S U V T1)) := by rw [had1, hT1]; rw [ecl] at hD; exact hD
        refine lv_iload hx hb dL_build_292 (lv_at hl 2 rfl) ?_
        refine lv_icmp_eq (tgt := 299) hx hb dL_build_294 (by decide) (fun _ => ?_) (fun c => absurd rfl c)
        refine lv_aload hx hb dL_build_299 (lv_at hl 0 rfl) ?_
        refine lv_iconst (v := nI 1) hx hb dL_build_301 (by decide) ?_
        refine lv_iload hx hb dL_build_302 (lv_at hl 1 rfl) ?_
        refine lv_iconst (v := 2) hx hb dL_build_304 (by decide) ?_
        refine lv_ishr hx hb dL_build_305 ?_
        refine lv_bipush (v := nI 9) hx hb dL_build_306 (by decide) ?_
        obtain ⟨jp, ejp⟩ : ∃ j, j = bel (x >>> (2 &&& 31)) 9 := ⟨_, rfl⟩
        have hjp : jp < 9 := by rw [ejp]; exact bel_lt _ (by decide)
        refine sp_rS (rest := [.int (nI 1), .ref ty]) (As := [.int (x >>> (2 &&& 31)), .int (nI 9)]) ⟨hx, hb, hml, hown, hts⟩ (mL_below l D cI cT (x >>> (2 &&& 31)) 9 (by decide) (by decide)) (va_cwS 2 hts gL_build_L_below rfl rfl rfl (by decide +kernel) ⟨Nat.le_of_ble_eq_true rfl, Nat.le_of_ble_eq_true rfl⟩) hX.1 (show va_P D vwCl [] _ from fun k q h => by simp at h) rfl hl.1 rfl (Nat.le_of_ble_eq_true rfl) dL_build_308 ⟨show c1 + 1 + 2 + 1 + 5 ≤ 200 by omega, show s1 + 17 + 2 + nr + 40 ≤ 2000 by omega⟩ ?_
        refine sp_top (show nI (bel (x >>> (2 &&& 31)) 9) = nI jp from by rw [ejp]) ?_
        refine lv_iadd hx hb dL_build_311 ?_
        refine sp_top (show (nI 1) + (nI jp) = nI (1 + jp) from nI_add 1 jp) ?_
        obtain ⟨pu, hpu⟩ : ∃ z, z = 1 + jp := ⟨_, rfl⟩
        refine sp_top (show nI (1 + jp) = nI pu from by rw [hpu]) ?_
        refine va_put (D := D) (ci := 4) (v := .int (nI pu)) (ty := .int) (C := RX4) (T := TX4) (N := 17) hx hb hts hiX4 tyX4 tyX4_ok nmX4 hown hX.2.1 hP hD hS 1 rfl rfl 2 (by decide) (hts (.fieldLink RL 63 "SledgeRaceLaw$Team" "pullers" "I") (by decide +kernel)) (fun _ h9 => h9) rfl (by decide +kernel) rfl rfl (Nat.le_of_ble_eq_true rfl) dL_build_312 (fun H locs hP hD hS => ?_)
        have hP : va_P D vwCl ((ra, aI cI nr (fun _ => 0)) :: (ty, oYv (upd (upd (upd (F1) 0 (nI ln)) 1 (nI wt)) 2 (nI pu)) (.ref ra) .null (.ref h1) (.ref l1)) :: (([(sm, oSv 0 (nI len) 0 g9 (.ref tt)), (tt, aQ cL n4 f)] ++ LW) ++ wRace cI cT r tr k1 k2 k3 ts ad1 (k + 1) 0 KF S U V T1)) H := hP
        have hD : va_D A ((ra, aI cI nr (fun _ => 0)) :: (ty, oYv (upd (upd (upd (F1) 0 (nI ln)) 1 (nI wt)) 2 (nI pu)) (.ref ra) .null (.ref h1) (.ref l1)) :: (([(sm, oSv 0 (nI len) 0 g9 (.ref tt)), (tt, aQ cL n4 f)] ++ LW) ++ wRace cI cT r tr k1 k2 k3 ts ad1 (k + 1) 0 KF S U V T1)) := hD
        refine lv_aload hx hb dL_build_315 (lv_at hl 0 rfl) ?_
        refine lv_iconst (v := nI 1) hx hb dL_build_317 (by decide) ?_
        refine lv_iload hx hb dL_build_318 (lv_at hl 1 rfl) ?_
        refine lv_iconst (v := 4) hx hb dL_build_320 (by decide) ?_
        refine lv_ishr hx hb dL_build_321 ?_
        refine lv_bipush (v := nI 20) hx hb dL_build_322 (by decide) ?_
        obtain ⟨js, ejs⟩ : ∃ j, j = bel (x >>> (4 &&& 31)) 20 := ⟨_, rfl⟩
        have hjs : js < 20 := by rw [ejs]; exact bel_lt _ (by decide)
        refine sp_rS (rest := [.int (nI 1), .ref ty]) (As := [.int (x >>> (4 &&& 31)), .int (nI 20)]) ⟨hx, hb, hml, hown, hts⟩ (mL_below l D cI cT (x >>> (4 &&& 31)) 20 (by decide) (by decide)) (va_cwS 2 hts gL_build_L_below rfl rfl rfl (by decide +kernel) ⟨Nat.le_of_ble_eq_true rfl, Nat.le_of_ble_eq_true rfl⟩) hX.1 (show va_P D vwCl [] _ from fun k q h => by simp at h) rfl hl.1 rfl (Nat.le_of_ble_eq_true rfl) dL_build_324 ⟨show c1 + 1 + 2 + 1 + 5 ≤ 200 by omega, show s1 + 17 + 2 + nr + 40 ≤ 2000 by omega⟩ ?_
        refine sp_top (show nI (bel (x >>> (4 &&& 31)) 20) = nI js from by rw [ejs]) ?_
        refine lv_iadd hx hb dL_build_327 ?_
        refine sp_top (show (nI 1) + (nI js) = nI (1 + js) from nI_add 1 js) ?_
        obtain ⟨sg, hsg⟩ : ∃ z, z = 1 + js := ⟨_, rfl⟩
        refine sp_top (show nI (1 + js) = nI sg from by rw [hsg]) ?_
        refine va_put (D := D) (ci := 4) (v := .int (nI sg)) (ty := .int) (C := RX4) (T := TX4) (N := 17) hx hb hts hiX4 tyX4 tyX4_ok nmX4 hown hX.2.1 hP hD hS 1 rfl rfl 3 (by decide) (hts (.fieldLink RL 66 "SledgeRaceLaw$Team" "strength" "I") (by decide +kernel)) (fun _ h9 => h9) rfl (by decide +kernel) rfl rfl (Nat.le_of_ble_eq_true rfl) dL_build_328 (fun H locs hP hD hS => ?_)
        have hP : va_P D vwCl ((ra, aI cI nr (fun _ => 0)) :: (ty, oYv (upd (upd (upd (upd (F1) 0 (nI ln)) 1 (nI wt)) 2 (nI pu)) 3 (nI sg)) (.ref ra) .null (.ref h1) (.ref l1)) :: (([(sm, oSv 0 (nI len) 0 g9 (.ref tt)), (tt, aQ cL n4 f)] ++ LW) ++ wRace cI cT r tr k1 k2 k3 ts ad1 (k + 1) 0 KF S U V T1)) H := hP
        have hD : va_D A ((ra, aI cI nr (fun _ => 0)) :: (ty, oYv (upd (upd (upd (upd (F1) 0 (nI ln)) 1 (nI wt)) 2 (nI pu)) 3 (nI sg)) (.ref ra) .null (.ref h1) (.ref l1)) :: (([(sm, oSv 0 (nI len) 0 g9 (.ref tt)), (tt, aQ cL n4 f)] ++ LW) ++ wRace cI cT r tr k1 k2 k3 ts ad1 (k + 1) 0 KF S U V T1)) := hD
        refine lv_aload hx hb dL_build_331 (lv_at hl 0 rfl) ?_
        refine lv_bipush (v := nI 20) hx hb dL_build_333 (by decide) ?_
        refine lv_iload hx hb dL_build_335 (lv_at hl 1 rfl) ?_
        refine lv_bipush (v := 6) hx hb dL_build_337 (by decide) ?_
        refine lv_ishr hx hb dL_build_339 ?_
        refine lv_sipush (v := nI 381) hx hb dL_build_340 (by decide) ?_
        obtain ⟨jo, ejo⟩ : ∃ j, j = bel (x >>> (6 &&& 31)) 381 := ⟨_, rfl⟩
        have hjo : jo < 381 := by rw [ejo]; exact bel_lt _ (by decide)
        refine sp_rS (rest := [.int (nI 20), .ref ty]) (As := [.int (x >>> (6 &&& 31)), .int (nI 381)]) ⟨hx, hb, hml, hown, hts⟩ (mL_below l D cI cT (x >>> (6 &&& 31)) 381 (by decide) (by decide)) (va_cwS 2 hts gL_build_L_below rfl rfl rfl (by decide +kernel) ⟨Nat.le_of_ble_eq_true rfl, Nat.le_of_ble_eq_true rfl⟩) hX.1 (show va_P D vwCl [] _ from fun k q h => by simp at h) rfl hl.1 rfl (Nat.le_of_ble_eq_true rfl) dL_build_343 ⟨show c1 + 1 + 2 + 1 + 5 ≤ 200 by omega, show s1 + 17 + 2 + nr + 40 ≤ 2000 by omega⟩ ?_
        refine sp_top (show nI (bel (x >>> (6 &&& 31)) 381) = nI jo from by rw [ejo]) ?_
        refine lv_iadd hx hb dL_build_346 ?_
        refine sp_top (show (nI 20) + (nI jo) = nI (20 + jo) from nI_add 20 jo) ?_
        obtain ⟨ro, hro⟩ : ∃ z, z = 20 + jo := ⟨_, rfl⟩
        refine sp_top (show nI (20 + jo) = nI ro from by rw [hro]) ?_
        refine va_put (D := D) (ci := 4) (v := .int (nI ro)) (ty := .int) (C := RX4) (T := TX4) (N := 17) hx hb hts hiX4 tyX4 tyX4_ok nmX4 hown hX.2.1 hP hD hS 1 rfl rfl 4 (by decide) (hts (.fieldLink RL 69 "SledgeRaceLaw$Team" "ownRope" "I") (by decide +kernel)) (fun _ h9 => h9) rfl (by decide +kernel) rfl rfl (Nat.le_of_ble_eq_true rfl) dL_build_347 (fun H locs hP hD hS => ?_)
        have hP : va_P D vwCl ((ra, aI cI nr (fun _ => 0)) :: (ty, oYv (upd (upd (upd (upd (upd (F1) 0 (nI ln)) 1 (nI wt)) 2 (nI pu)) 3 (nI sg)) 4 (nI ro)) (.ref ra) .null (.ref h1) (.ref l1)) :: (([(sm, oSv 0 (nI len) 0 g9 (.ref tt)), (tt, aQ cL n4 f)] ++ LW) ++ wRace cI cT r tr k1 k2 k3 ts ad1 (k + 1) 0 KF S U V T1)) H := hP
        have hD : va_D A ((ra, aI cI nr (fun _ => 0)) :: (ty, oYv (upd (upd (upd (upd (upd (F1) 0 (nI ln)) 1 (nI wt)) 2 (nI pu)) 3 (nI sg)) 4 (nI ro)) (.ref ra) .null (.ref h1) (.ref l1)) :: (([(sm, oSv 0 (nI len) 0 g9 (.ref tt)), (tt, aQ cL n4 f)] ++ LW) ++ wRace cI cT r tr k1 k2 k3 ts ad1 (k + 1) 0 KF S U V T1)) := hD
        refine lv_aload hx hb dL_build_350 (lv_at hl 0 rfl) ?_
        refine lv_iconst (v := nI 1) hx hb dL_build_352 (by decide) ?_
        refine lv_iload hx hb dL_build_353 (lv_at hl 1 rfl) ?_
        refine lv_bipush (v := 7) hx hb dL_build_355 (by decide) ?_
        refine lv_ishr hx hb dL_build_357 ?_
        refine lv_iconst (v := nI 3) hx hb dL_build_358 (by decide) ?_
        obtain ⟨jh, ejh⟩ : ∃ j, j = bel (x >>> (7 &&& 31)) 3 := ⟨_, rfl⟩
        have hjh : jh < 3 := by rw [ejh]; exact bel_lt _ (by decide)
        refine sp_rS (rest := [.int (nI 1), .ref ty]) (As := [.int (x >>> (7 &&& 31)), .int (nI 3)]) ⟨hx, hb, hml, hown, hts⟩ (mL_below l D cI cT (x >>> (7 &&& 31)) 3 (by decide) (by decide)) (va_cwS 2 hts gL_build_L_below rfl rfl rfl (by decide +kernel) ⟨Nat.le_of_ble_eq_true rfl, Nat.le_of_ble_eq_true rfl⟩) hX.1 (show va_P D vwCl [] _ from fun k q h => by simp at h) rfl hl.1 rfl (Nat.le_of_ble_eq_true rfl) dL_build_359 ⟨show c1 + 1 + 2 + 1 + 5 ≤ 200 by omega, show s1 + 17 + 2 + nr + 40 ≤ 2000 by omega⟩ ?_
        refine sp_top (show nI (bel (x >>> (7 &&& 31)) 3) = nI jh from by rw [ejh]) ?_
        refine lv_iadd hx hb dL_build_362 ?_
        refine sp_top (show (nI 1) + (nI jh) = nI (1 + jh) from nI_add 1 jh) ?_
        obtain ⟨nh, hnh⟩ : ∃ z, z = 1 + jh := ⟨_, rfl⟩
        refine sp_top (show nI (1 + jh) = nI nh from by rw [hnh]) ?_
        refine pl_newi hx hb (hts (.arrayClass .int) (by decide +kernel)) hX.1 hP hD hS hA nh rfl (by omega) (show c1 + 1 + 2 + 1 + 5 + 1 ≤ 200 by omega) (show s1 + 17 + 2 + nr + 40 + nh ≤ 2000 by omega) dL_build_363 (fun ha H hP hD hS => ?_)
        have hP : va_P D vwCl ((ha, aI cI nh (fun _ => 0)) :: (ra, aI cI nr (fun _ => 0)) :: (ty, oYv (upd (upd (upd (upd (upd (F1) 0 (nI ln)) 1 (nI wt)) 2 (nI pu)) 3 (nI sg)) 4 (nI ro)) (.ref ra) .null (.ref h1) (.ref l1)) :: (([(sm, oSv 0 (nI len) 0 g9 (.ref tt)), (tt, aQ cL n4 f)] ++ LW) ++ wRace cI cT r tr k1 k2 k3 ts ad1 (k + 1) 0 KF S U V T1)) H := hP
        have hD : va_D A ((ha, aI cI nh (fun _ => 0)) :: (ra, aI cI nr (fun _ => 0)) :: (ty, oYv (upd (upd (upd (upd (upd (F1) 0 (nI ln)) 1 (nI wt)) 2 (nI pu)) 3 (nI sg)) 4 (nI ro)) (.ref ra) .null (.ref h1) (.ref l1)) :: (([(sm, oSv 0 (nI len) 0 g9 (.ref tt)), (tt, aQ cL n4 f)] ++ LW) ++ wRace cI cT r tr k1 k2 k3 ts ad1 (k + 1) 0 KF S U V T1)) := hD
        refine va_put (D := D) (ci := 4) (v := .ref ha) (ty := (.array .int)) (C := RX4) (T := TX4) (N := 17) hx hb hts hiX4 tyX4 tyX4_ok nmX4 hown hX.2.1 hP hD hS 2 rfl rfl 15 (by decide) (hts (.fieldLink RL 72 "SledgeRaceLaw$Team" "held" "[I") (by decide +kernel)) (fun _ h9 => h9) rfl (by decide +kernel) rfl rfl (Nat.le_of_ble_eq_true rfl) dL_build_365 (fun H locs hP hD hS => ?_)
        have hP : va_P D vwCl ((ha, aI cI nh (fun _ => 0)) :: (ra, aI cI nr (fun _ => 0)) :: (ty, oYv (upd (upd (upd (upd (upd (F1) 0 (nI ln)) 1 (nI wt)) 2 (nI pu)) 3 (nI sg)) 4 (nI ro)) (.ref ra) .null (.ref ha) (.ref l1)) :: (([(sm, oSv 0 (nI len) 0 g9 (.ref tt)), (tt, aQ cL n4 f)] ++ LW) ++ wRace cI cT r tr k1 k2 k3 ts ad1 (k + 1) 0 KF S U V T1)) H := hP
        have hD : va_D A ((ha, aI cI nh (fun _ => 0)) :: (ra, aI cI nr (fun _ => 0)) :: (ty, oYv (upd (upd (upd (upd (upd (F1) 0 (nI ln)) 1 (nI wt)) 2 (nI pu)) 3 (nI sg)) 4 (nI ro)) (.ref ra) .null (.ref ha) (.ref l1)) :: (([(sm, oSv 0 (nI len) 0 g9 (.ref tt)), (tt, aQ cL n4 f)] ++ LW) ++ wRace cI cT r tr k1 k2 k3 ts ad1 (k + 1) 0 KF S U V T1)) := hD
        refine lv_aload hx hb dL_build_368 (lv_at hl 0 rfl) ?_
        refine lv_aload hx hb dL_build_370 (lv_at hl 0 rfl) ?_
        refine va_get (D := D) (ci := 4) (v := .ref ha) (C := RX4) (T := TX4) (N := 17) hx hb hts hiX4 hown hX.2.1 hP 2 rfl rfl 15 (by decide) (hts (.fieldLink RL 72 "SledgeRaceLaw$Team" "held" "[I") (by decide +kernel)) (fun _ h9 => h9) rfl dL_build_372 ?_
        refine va_alen hx hb hX.2.1 hP 0 0 rfl rfl (v := nI nh) rfl dL_build_375 ?_
        refine pl_newi hx hb (hts (.arrayClass .int) (by decide +kernel)) hX.1 hP hD hS hA nh rfl (by omega) (show c1 + 1 + 2 + 1 + 5 + 1 + 1 ≤ 200 by omega) (show s1 + 17 + 2 + nr + 40 + nh + nh ≤ 2000 by omega) dL_build_376 (fun la H hP hD hS => ?_)
        have hP : va_P D vwCl ((la, aI cI nh (fun _ => 0)) :: (ha, aI cI nh (fun _ => 0)) :: (ra, aI cI nr (fun _ => 0)) :: (ty, oYv (upd (upd (upd (upd (upd (F1) 0 (nI ln)) 1 (nI wt)) 2 (nI pu)) 3 (nI sg)) 4 (nI ro)) (.ref ra) .null (.ref ha) (.ref l1)) :: (([(sm, oSv 0 (nI len) 0 g9 (.ref tt)), (tt, aQ cL n4 f)] ++ LW) ++ wRace cI cT r tr k1 k2 k3 ts ad1 (k + 1) 0 KF S U V T1)) H := hP
        have hD : va_D A ((la, aI cI nh (fun _ => 0)) :: (ha, aI cI nh (fun _ => 0)) :: (ra, aI cI nr (fun _ => 0)) :: (ty, oYv (upd (upd (upd (upd (upd (F1) 0 (nI ln)) 1 (nI wt)) 2 (nI pu)) 3 (nI sg)) 4 (nI ro)) (.ref ra) .null (.ref ha) (.ref l1)) :: (([(sm, oSv 0 (nI len) 0 g9 (.ref tt)), (tt, aQ cL n4 f)] ++ LW) ++ wRace cI cT r tr k1 k2 k3 ts ad1 (k + 1) 0 KF S U V T1)) := hD
        refine va_put (D := D) (ci := 4) (v := .ref la) (ty := (.array .int)) (C := RX4) (T := TX4) (N := 17) hx hb hts hiX4 tyX4 tyX4_ok nmX4 hown hX.2.1 hP hD hS 3 rfl rfl 16 (by decide) (hts (.fieldLink RL 75 "SledgeRaceLaw$Team" "left" "[I") (by decide +kernel)) (fun _ h9 => h9) rfl (by decide +kernel) rfl rfl (Nat.le_of_ble_eq_true rfl) dL_build_378 (fun H locs hP hD hS => ?_)
        have hP : va_P D vwCl ((la, aI cI nh (fun _ => 0)) :: (ha, aI cI nh (fun _ => 0)) :: (ra, aI cI nr (fun _ => 0)) :: (ty, oYv (upd (upd (upd (upd (upd (F1) 0 (nI ln)) 1 (nI wt)) 2 (nI pu)) 3 (nI sg)) 4 (nI ro)) (.ref ra) .null (.ref ha) (.ref la)) :: (([(sm, oSv 0 (nI len) 0 g9 (.ref tt)), (tt, aQ cL n4 f)] ++ LW) ++ wRace cI cT r tr k1 k2 k3 ts ad1 (k + 1) 0 KF S U V T1)) H := hP
        have hD : va_D A ((la, aI cI nh (fun _ => 0)) :: (ha, aI cI nh (fun _ => 0)) :: (ra, aI cI nr (fun _ => 0)) :: (ty, oYv (upd (upd (upd (upd (upd (F1) 0 (nI ln)) 1 (nI wt)) 2 (nI pu)) 3 (nI sg)) 4 (nI ro)) (.ref ra) .null (.ref ha) (.ref la)) :: (([(sm, oSv 0 (nI len) 0 g9 (.ref tt)), (tt, aQ cL n4 f)] ++ LW) ++ wRace cI cT r tr k1 k2 k3 ts ad1 (k + 1) 0 KF S U V T1)) := hD
        refine lv_aload_n hx hb dL_build_381 rfl (lv_at hl 6 rfl) ?_
        refine lv_iload hx hb dL_build_382 (lv_at hl 2 rfl) ?_
        refine lv_aload hx hb dL_build_384 (lv_at hl 0 rfl) ?_
        refine va_get (D := D) (ci := 4) (v := .int (nI pu)) (C := RX4) (T := TX4) (N := 17) hx hb hts hiX4 hown hX.2.1 hP 3 rfl rfl 2 (by decide) (hts (.fieldLink RL 63 "SledgeRaceLaw$Team" "pullers" "I") (by decide +kernel)) (fun _ h9 => h9) rfl dL_build_386 ?_
        refine lv_aload hx hb dL_build_389 (lv_at hl 0 rfl) ?_
        refine va_get (D := D) (ci := 4) (v := .int (nI sg)) (C := RX4) (T := TX4) (N := 17) hx hb hts hiX4 hown hX.2.1 hP 3 rfl rfl 3 (by decide) (hts (.fieldLink RL 66 "SledgeRaceLaw$Team" "strength" "I") (by decide +kernel)) (fun _ h9 => h9) rfl dL_build_391 ?_
        refine lv_aload hx hb dL_build_394 (lv_at hl 0 rfl) ?_
        refine va_get (D := D) (ci := 4) (v := .ref ha) (C := RX4) (T := TX4) (N := 17) hx hb hts hiX4 hown hX.2.1 hP 3 rfl rfl 15 (by decide) (hts (.fieldLink RL 72 "SledgeRaceLaw$Team" "held" "[I") (by decide +kernel)) (fun _ h9 => h9) rfl dL_build_396 ?_
        refine va_alen hx hb hX.2.1 hP 1 0 rfl rfl (v := nI nh) rfl dL_build_399 ?_
        refine lv_aload hx hb dL_build_400 (lv_at hl 0 rfl) ?_
        refine va_get (D := D) (ci := 4) (v := .int (nI ro)) (C := RX4) (T := TX4) (N := 17) hx hb hts hiX4 hown hX.2.1 hP 3 rfl rfl 4 (by decide) (hts (.fieldLink RL 69 "SledgeRaceLaw$Team" "ownRope" "I") (by decide +kernel)) (fun _ h9 => h9) rfl dL_build_402 ?_
        have eck : (nI k).toNatClampNeg = k := nI_clamp (by omega)
        obtain ⟨T2, hT2⟩ : ∃ z, z = setT T1 (k + 2) (upd (upd (upd (upd (upd (T1 (k + 2)).1 4 (nI pu)) 5 (nI sg)) 6 (nI nh)) 7 (nI ro)) 12 (nI ro), (T1 (k + 2)).2) := ⟨_, rfl⟩
        have h48 := team_48 hT1 hT2
        refine pl_sO (W0 := [(la, aI cI nh (fun _ => 0)), (ha, aI cI nh (fun _ => 0)), (ra, aI cI nr (fun _ => 0)), (ty, oYv (upd (upd (upd (upd (upd (F1) 0 (nI ln)) 1 (nI wt)) 2 (nI pu)) 3 (nI sg)) 4 (nI ro)) (.ref ra) .null (.ref ha) (.ref la)), (sm, oSv 0 (nI len) 0 g9 (.ref tt)), (tt, aQ cL n4 f)] ++ LW) (w' := wRace cI cT r tr k1 k2 k3 ts ad1 (k + 1) 0 KF S U V (setT T1 ((nI k).toNatClampNeg + 2) (upd (upd (upd (upd (upd (T1 ((nI k).toNatClampNeg + 2)).1 4 (nI pu)) 5 (nI sg)) 6 (nI nh)) 7 (nI ro)) 12 (nI ro), (T1 ((nI k).toNatClampNeg + 2)).2))) (rest := []) (As := [.int (nI k), .int (nI pu), .int (nI sg), .int (nI nh), .int (nI ro)]) ⟨hx, hb, hml, hown, hts⟩ (mX2_setCrew l D cI cT hl9 H.size r tr k1 k2 k3 ts ad1 (k + 1) (by omega) 0 KF S U V T1 (nI k) (nI pu) (nI sg) (nI nh) (nI ro)) (cwV 5 hts gL_build_X2_setCrew rfl rfl rfl (by decide +kernel) ⟨Nat.le_of_ble_eq_true rfl, Nat.le_of_ble_eq_true rfl⟩) (crew_res (by omega) (by omega) ⟨by omega, by omega⟩ ⟨by omega, by omega⟩ ⟨by omega, by omega⟩ ⟨by omega, by omega⟩ h48.1) hX.1 hXZ hXS hP hD hS hA (xb_fst rfl cI ad1 _ _ _) (ci := 2) rfl rfl rfl rfl hl.1 rfl (Nat.le_of_ble_eq_true rfl) dL_build_405 ⟨by decide, by decide⟩ ⟨show c1 + 1 + 2 + 1 + 5 + 1 + 1 + 2 ≤ 200 by omega, show s1 + 17 + 2 + nr + 40 + nh + nh + 12 ≤ 2000 by omega⟩ (fun H locs hP hD hS => ?_)
        have hP : va_P D vwCl ((la, aI cI nh (fun _ => 0)) :: (ha, aI cI nh (fun _ => 0)) :: (ra, aI cI nr (fun _ => 0)) :: (ty, oYv (upd (upd (upd (upd (upd (F1) 0 (nI ln)) 1 (nI wt)) 2 (nI pu)) 3 (nI sg)) 4 (nI ro)) (.ref ra) .null (.ref ha) (.ref la)) :: (([(sm, oSv 0 (nI len) 0 g9 (.ref tt)), (tt, aQ cL n4 f)] ++ LW) ++ wRace cI cT r tr k1 k2 k3 ts ad1 (k + 1) 0 KF S U V T2)) H := by rw [hT2]; rw [eck] at hP; exact hP
        have hD : va_D A ((la, aI cI nh (fun _ => 0)) :: (ha, aI cI nh (fun _ => 0)) :: (ra, aI cI nr (fun _ => 0)) :: (ty, oYv (upd (upd (upd (upd (upd (F1) 0 (nI ln)) 1 (nI wt)) 2 (nI pu)) 3 (nI sg)) 4 (nI ro)) (.ref ra) .null (.ref ha) (.ref la)) :: (([(sm, oSv 0 (nI len) 0 g9 (.ref tt)), (tt, aQ cL n4 f)] ++ LW) ++ wRace cI cT r tr k1 k2 k3 ts ad1 (k + 1) 0 KF S U V T2)) := by rw [hT2]; rw [eck] at hD; exact hD
        refine lv_iconst (v := 4) hx hb dL_build_408 (by decide) ?_
        refine lv_icmp_eq (tgt := 414) hx hb dL_build_409 (by decide) (fun _ => ?_) (fun c => absurd rfl c)
        refine lv_aload hx hb dL_build_414 (lv_at hl 0 rfl) ?_
        refine lv_iload hx hb dL_build_416 (lv_at hl 1 rfl) ?_
        refine lv_bipush (v := 8) hx hb dL_build_418 (by decide) ?_
        refine lv_ishr hx hb dL_build_420 ?_
        refine lv_bipush (v := nI 11) hx hb dL_build_421 (by decide) ?_
        obtain ⟨jf, ejf⟩ : ∃ j, j = bel (x >>> (8 &&& 31)) 11 := ⟨_, rfl⟩
        have hjf : jf < 11 := by rw [ejf]; exact bel_lt _ (by decide)
        refine sp_rS (rest := [.ref ty]) (As := [.int (x >>> (8 &&& 31)), .int (nI 11)]) ⟨hx, hb, hml, hown, hts⟩ (mL_below l D cI cT (x >>> (8 &&& 31)) 11 (by decide) (by decide)) (va_cwS 2 hts gL_build_L_below rfl rfl rfl (by decide +kernel) ⟨Nat.le_of_ble_eq_true rfl, Nat.le_of_ble_eq_true rfl⟩) hX.1 (show va_P D vwCl [] _ from fun k q h => by simp at h) rfl hl.1 rfl (Nat.le_of_ble_eq_true rfl) dL_build_423 ⟨show c1 + 1 + 2 + 1 + 5 + 1 + 1 + 2 ≤ 200 by omega, show s1 + 17 + 2 + nr + 40 + nh + nh + 12 ≤ 2000 by omega⟩ ?_
        refine sp_top (show nI (bel (x >>> (8 &&& 31)) 11) = nI jf from by rw [ejf]) ?_
        refine va_put (D := D) (ci := 4) (v := .int (nI jf)) (ty := .int) (C := RX4) (T := TX4) (N := 17) hx hb hts hiX4 tyX4 tyX4_ok nmX4 hown hX.2.1 hP hD hS 3 rfl rfl 5 (by decide) (hts (.fieldLink RL 82 "SledgeRaceLaw$Team" "effort" "I") (by decide +kernel)) (fun _ h9 => h9) rfl (by decide +kernel) rfl rfl (Nat.le_of_ble_eq_true rfl) dL_build_426 (fun H locs hP hD hS => ?_)
        have hP : va_P D vwCl ((la, aI cI nh (fun _ => 0)) :: (ha, aI cI nh (fun _ => 0)) :: (ra, aI cI nr (fun _ => 0)) :: (ty, oYv (upd (upd (upd (upd (upd (upd (F1) 0 (nI ln)) 1 (nI wt)) 2 (nI pu)) 3 (nI sg)) 4 (nI ro)) 5 (nI jf)) (.ref ra) .null (.ref ha) (.ref la)) :: (([(sm, oSv 0 (nI len) 0 g9 (.ref tt)), (tt, aQ cL n4 f)] ++ LW) ++ wRace cI cT r tr k1 k2 k3 ts ad1 (k + 1) 0 KF S U V T2)) H := hP
        have hD : va_D A ((la, aI cI nh (fun _ => 0)) :: (ha, aI cI nh (fun _ => 0)) :: (ra, aI cI nr (fun _ => 0)) :: (ty, oYv (upd (upd (upd (upd (upd (upd (F1) 0 (nI ln)) 1 (nI wt)) 2 (nI pu)) 3 (nI sg)) 4 (nI ro)) 5 (nI jf)) (.ref ra) .null (.ref ha) (.ref la)) :: (([(sm, oSv 0 (nI len) 0 g9 (.ref tt)), (tt, aQ cL n4 f)] ++ LW) ++ wRace cI cT r tr k1 k2 k3 ts ad1 (k + 1) 0 KF S U V T2)) := hD
        refine lv_aload hx hb dL_build_429 (lv_at hl 0 rfl) ?_
        refine lv_iconst (v := nI 1) hx hb dL_build_431 (by decide) ?_
        refine lv_iload hx hb dL_build_432 (lv_at hl 1 rfl) ?_
        refine lv_bipush (v := 9) hx hb dL_build_434 (by decide) ?_
        refine lv_ishr hx hb dL_build_436 ?_
        refine lv_bipush (v := nI 40) hx hb dL_build_437 (by decide) ?_
        obtain ⟨jg, ejg⟩ : ∃ j, j = bel (x >>> (9 &&& 31)) 40 := ⟨_, rfl⟩
        have hjg : jg < 40 := by rw [ejg]; exact bel_lt _ (by decide)
        refine sp_rS (rest := [.int (nI 1), .ref ty]) (As := [.int (x >>> (9 &&& 31)), .int (nI 40)]) ⟨hx, hb, hml, hown, hts⟩ (mL_below l D cI cT (x >>> (9 &&& 31)) 40 (by decide) (by decide)) (va_cwS 2 hts gL_build_L_below rfl rfl rfl (by decide +kernel) ⟨Nat.le_of_ble_eq_true rfl, Nat.le_of_ble_eq_true rfl⟩) hX.1 (show va_P D vwCl [] _ from fun k q h => by simp at h) rfl hl.1 rfl (Nat.le_of_ble_eq_true rfl) dL_build_439 ⟨show c1 + 1 + 2 + 1 + 5 + 1 + 1 + 2 ≤ 200 by omega, show s1 + 17 + 2 + nr + 40 + nh + nh + 12 ≤ 2000 by omega⟩ ?_
        refine sp_top (show nI (bel (x >>> (9 &&& 31)) 40) = nI jg from by rw [ejg]) ?_
        refine lv_iadd hx hb dL_build_442 ?_
        refine sp_top (show (nI 1) + (nI jg) = nI (1 + jg) from nI_add 1 jg) ?_
        obtain ⟨gp, hgp⟩ : ∃ z, z = 1 + jg := ⟨_, rfl⟩
        refine sp_top (show nI (1 + jg) = nI gp from by rw [hgp]) ?_
        refine va_put (D := D) (ci := 4) (v := .int (nI gp)) (ty := .int) (C := RX4) (T := TX4) (N := 17) hx hb hts hiX4 tyX4 tyX4_ok nmX4 hown hX.2.1 hP hD hS 3 rfl rfl 6 (by decide) (hts (.fieldLink RL 85 "SledgeRaceLaw$Team" "gap" "I") (by decide +kernel)) (fun _ h9 => h9) rfl (by decide +kernel) rfl rfl (Nat.le_of_ble_eq_true rfl) dL_build_443 (fun H locs hP hD hS => ?_)
        have hP : va_P D vwCl ((la, aI cI nh (fun _ => 0)) :: (ha, aI cI nh (fun _ => 0)) :: (ra, aI cI nr (fun _ => 0)) :: (ty, oYv (upd (upd (upd (upd (upd (upd (upd (F1) 0 (nI ln)) 1 (nI wt)) 2 (nI pu)) 3 (nI sg)) 4 (nI ro)) 5 (nI jf)) 6 (nI gp)) (.ref ra) .null (.ref ha) (.ref la)) :: (([(sm, oSv 0 (nI len) 0 g9 (.ref tt)), (tt, aQ cL n4 f)] ++ LW) ++ wRace cI cT r tr k1 k2 k3 ts ad1 (k + 1) 0 KF S U V T2)) H := hP
        have hD : va_D A ((la, aI cI nh (fun _ => 0)) :: (ha, aI cI nh (fun _ => 0)) :: (ra, aI cI nr (fun _ => 0)) :: (ty, oYv (upd (upd (upd (upd (upd (upd (upd (F1) 0 (nI ln)) 1 (nI wt)) 2 (nI pu)) 3 (nI sg)) 4 (nI ro)) 5 (nI jf)) 6 (nI gp)) (.ref ra) .null (.ref ha) (.ref la)) :: (([(sm, oSv 0 (nI len) 0 g9 (.ref tt)), (tt, aQ cL n4 f)] ++ LW) ++ wRace cI cT r tr k1 k2 k3 ts ad1 (k + 1) 0 KF S U V T2)) := hD
        refine lv_aload_n hx hb dL_build_446 rfl (lv_at hl 6 rfl) ?_
        refine lv_iload hx hb dL_build_447 (lv_at hl 2 rfl) ?_
        refine lv_aload hx hb dL_build_449 (lv_at hl 0 rfl) ?_
        refine va_get (D := D) (ci := 4) (v := .int (nI jf)) (C := RX4) (T := TX4) (N := 17) hx hb hts hiX4 hown hX.2.1 hP 3 rfl rfl 5 (by decide) (hts (.fieldLink RL 82 "SledgeRaceLaw$Team" "effort" "I") (by decide +kernel)) (fun _ h9 => h9) rfl dL_build_451 ?_
        refine lv_aload hx hb dL_build_454 (lv_at hl 0 rfl) ?_
        refine va_get (D := D) (ci := 4) (v := .int (nI gp)) (C := RX4) (T := TX4) (N := 17) hx hb hts hiX4 hown hX.2.1 hP 3 rfl rfl 6 (by decide) (hts (.fieldLink RL 85 "SledgeRaceLaw$Team" "gap" "I") (by decide +kernel)) (fun _ h9 => h9) rfl dL_build_456 ?_
        obtain ⟨T3, hT3⟩ : ∃ z, z = setT T2 (k + 2) (upd (upd (T2 (k + 2)).1 8 (nI jf)) 9 (nI gp), (T2 (k + 2)).2) := ⟨_, rfl⟩
        refine pl_sO (W0 := [(la, aI cI nh (fun _ => 0)), (ha, aI cI nh (fun _ => 0)), (ra, aI cI nr (fun _ => 0)), (ty, oYv (upd (upd (upd (upd (upd (upd (upd (F1) 0 (nI ln)) 1 (nI wt)) 2 (nI pu)) 3 (nI sg)) 4 (nI ro)) 5 (nI jf)) 6 (nI gp)) (.ref ra) .null (.ref ha) (.ref la)), (sm, oSv 0 (nI len) 0 g9 (.ref tt)), (tt, aQ cL n4 f)] ++ LW) (w' := wRace cI cT r tr k1 k2 k3 ts ad1 (k + 1) 0 KF S U V (setT T2 ((nI k).toNatClampNeg + 2) (upd (upd (T2 ((nI k).toNatClampNeg + 2)).1 8 (nI jf)) 9 (nI gp), (T2 ((nI k).toNatClampNeg + 2)).2))) (rest := []) (As := [.int (nI k), .int (nI jf), .int (nI gp)]) ⟨hx, hb, hml, hown, hts⟩ (mX2_order l D cI cT hl9 H.size r tr k1 k2 k3 ts ad1 (k + 1) (by omega) 0 KF S U V T2 (nI k) (nI jf) (nI gp)) (cwV 3 hts gL_build_X2_order rfl rfl rfl (by decide +kernel) ⟨Nat.le_of_ble_eq_true rfl, Nat.le_of_ble_eq_true rfl⟩) (order_res (by omega) (by omega) (by omega) ⟨by omega, by omega⟩ h48.2) hX.1 hXZ hXS hP hD hS hA (xb_fst rfl cI ad1 _ _ _) (ci := 2) rfl rfl rfl rfl hl.1 rfl (Nat.le_of_ble_eq_true rfl) dL_build_459 ⟨by decide, by decide⟩ ⟨show c1 + 1 + 2 + 1 + 5 + 1 + 1 + 2 + 2 ≤ 200 by omega, show s1 + 17 + 2 + nr + 40 + nh + nh + 12 + 12 ≤ 2000 by omega⟩ (fun H locs hP hD hS => ?_)
        have hP : va_P D vwCl ((la, aI cI nh (fun _ => 0)) :: (ha, aI cI nh (fun _ => 0)) :: (ra, aI cI nr (fun _ => 0)) :: (ty, oYv (upd (upd (upd (upd (upd (upd (upd (F1) 0 (nI ln)) 1 (nI wt)) 2 (nI pu)) 3 (nI sg)) 4 (nI ro)) 5 (nI jf)) 6 (nI gp)) (.ref ra) .null (.ref ha) (.ref la)) :: (([(sm, oSv 0 (nI len) 0 g9 (.ref tt)), (tt, aQ cL n4 f)] ++ LW) ++ wRace cI cT r tr k1 k2 k3 ts ad1 (k + 1) 0 KF S U V T3)) H := by rw [hT3]; rw [eck] at hP; exact hP
        have hD : va_D A ((la, aI cI nh (fun _ => 0)) :: (ha, aI cI nh (fun _ => 0)) :: (ra, aI cI nr (fun _ => 0)) :: (ty, oYv (upd (upd (upd (upd (upd (upd (upd (F1) 0 (nI ln)) 1 (nI wt)) 2 (nI pu)) 3 (nI sg)) 4 (nI ro)) 5 (nI jf)) 6 (nI gp)) (.ref ra) .null (.ref ha) (.ref la)) :: (([(sm, oSv 0 (nI len) 0 g9 (.ref tt)), (tt, aQ cL n4 f)] ++ LW) ++ wRace cI cT r tr k1 k2 k3 ts ad1 (k + 1) 0 KF S U V T3)) := by rw [hT3]; rw [eck] at hD; exact hD
        refine lv_iconst (v := 5) hx hb dL_build_462 (by decide) ?_
        refine lv_icmp_eq (tgt := 468) hx hb dL_build_463 (by decide) (fun _ => ?_) (fun c => absurd rfl c)
        obtain ⟨F5, hF5⟩ : ∃ z, z = upd (upd (upd (upd (upd (upd (upd (F1) 0 (nI ln)) 1 (nI wt)) 2 (nI pu)) 3 (nI sg)) 4 (nI ro)) 5 (nI jf)) 6 (nI gp) := ⟨_, rfl⟩
        have hF50 : F5 0 = nI ln ∧ F5 1 = nI wt := by rw [hF5]; exact ⟨rfl, rfl⟩
        rw [← hF5] at hP hD
        clear hF5
        have hP : va_P D vwCl ([(la, aI cI nh (fun _ => 0)), (ha, aI cI nh (fun _ => 0)), (ra, aI cI nr (fun _ => 0)), (ty, oYv F5 (.ref ra) .null (.ref ha) (.ref la)), (sm, oSv 0 (nI len) 0 g9 (.ref tt)), (tt, aQ cL n4 f)] ++ (LW ++ wRace cI cT r tr k1 k2 k3 ts ad1 (k + 1) 0 KF S U V T3)) H := hP
        have hD : va_D A ([(la, aI cI nh (fun _ => 0)), (ha, aI cI nh (fun _ => 0)), (ra, aI cI nr (fun _ => 0)), (ty, oYv F5 (.ref ra) .null (.ref ha) (.ref la)), (sm, oSv 0 (nI len) 0 g9 (.ref tt)), (tt, aQ cL n4 f)] ++ (LW ++ wRace cI cT r tr k1 k2 k3 ts ad1 (k + 1) 0 KF S U V T3)) := hD
        obtain ⟨hP, hD⟩ := pl_perm (A' := [(ty, oYv F5 (.ref ra) .null (.ref ha) (.ref la)), (ra, aI cI nr (fun _ => 0)), (ha, aI cI nh (fun _ => 0)), (sm, oSv 0 (nI len) 0 g9 (.ref tt)), (tt, aQ cL n4 f)]) hP hD [3, 2, 1, 4, 5] (by decide) rfl
        have hP : va_P D vwCl ([(ty, oYv F5 (.ref ra) .null (.ref ha) (.ref la)), (ra, aI cI nr (fun _ => 0)), (ha, aI cI nh (fun _ => 0))] ++ ([(sm, oSv 0 (nI len) 0 g9 (.ref tt)), (tt, aQ cL n4 f)] ++ (LW ++ wRace cI cT r tr k1 k2 k3 ts ad1 (k + 1) 0 KF S U V T3))) H := hP
        have hD : va_D A ([(ty, oYv F5 (.ref ra) .null (.ref ha) (.ref la)), (ra, aI cI nr (fun _ => 0)), (ha, aI cI nh (fun _ => 0))] ++ ([(sm, oSv 0 (nI len) 0 g9 (.ref tt)), (tt, aQ cL n4 f)] ++ (LW ++ wRace cI cT r tr k1 k2 k3 ts ad1 (k + 1) 0 KF S U V T3))) := hD
        refine lv_aload hx hb dL_build_468 (lv_at hl 0 rfl) ?_
        refine pl_vK (w := [(ty, oYv F5 (.ref ra) .null (.ref ha) (.ref la)), (ra, aI cI nr (fun _ => 0)), (ha, aI cI nh (fun _ => 0))]) (W0 := [(sm, oSv 0 (nI len) 0 g9 (.ref tt)), (tt, aQ cL n4 f)] ++ (LW ++ wRace cI cT r tr k1 k2 k3 ts ad1 (k + 1) 0 KF S U V T3)) (rest := []) (As := []) ⟨hx, hb, hml, hown, hts⟩ (mX4_begin l D cI cT cL cG cZ H.size ty ra ha nr nh (by omega) (by omega) .null (.ref la) F5 (fun _ => 0) (fun _ => 0)) (cwV 0 hts gL_build_X4_begin rfl rfl rfl (by decide +kernel) ⟨Nat.le_of_ble_eq_true rfl, Nat.le_of_ble_eq_true rfl⟩) hX hP hD hS hA (ci := 4) rfl rfl rfl rfl hl.1 rfl (Nat.le_of_ble_eq_true rfl) dL_build_470 ⟨show c1 + 1 + 2 + 1 + 5 + 1 + 1 + 2 + 2 + 1 ≤ 200 by omega, show s1 + 17 + 2 + nr + 40 + nh + nh + 12 + 12 + 8 ≤ 2000 by omega⟩ (fun u H locs hgood hP hD hS => ?_)
        obtain ⟨F6, ca6, P6, G6⟩ := u
        obtain ⟨hg1, hg2⟩ := hgood
        have hg1 : F6 0 = nI ln := hg1.trans hF50.1
        have hg2 : F6 1 = nI wt := hg2.trans hF50.2
        have hP : va_P D vwCl ([(ty, oYv F6 (.ref ra) (.ref ca6) (.ref ha) (.ref la)), (ra, aI cI nr P6), (ha, aI cI nh G6), (sm, oSv 0 (nI len) 0 g9 (.ref tt)), (tt, aQ cL n4 f)] ++ (LW ++ wRace cI cT r tr k1 k2 k3 ts ad1 (k + 1) 0 KF S U V T3)) H := hP
        have hD : va_D A ([(ty, oYv F6 (.ref ra) (.ref ca6) (.ref ha) (.ref la)), (ra, aI cI nr P6), (ha, aI cI nh G6), (sm, oSv 0 (nI len) 0 g9 (.ref tt)), (tt, aQ cL n4 f)] ++ (LW ++ wRace cI cT r tr k1 k2 k3 ts ad1 (k + 1) 0 KF S U V T3)) := hD
        refine lv_aload_n hx hb dL_build_473 rfl (lv_at hl 5 rfl) ?_
        refine va_get (D := D) (ci := 3) (v := .ref tt) (C := RX3) (T := TX3) (N := 5) hx hb hts hiX3 hown hX.2.1 hP 3 rfl rfl 4 (by decide) (hts (.fieldLink RL 45 "SledgeRaceLaw$Sim" "teams" "[LSledgeRaceLaw$Team;") (by decide +kernel)) (fun _ h9 => h9) rfl dL_build_474 ?_
        refine lv_iload hx hb dL_build_477 (lv_at hl 2 rfl) ?_
        refine lv_aload hx hb dL_build_479 (lv_at hl 0 rfl) ?_
        refine va_astq hx hb hX.2.1 hP hD hS 4 1 0 4 rfl rfl rfl rfl (vp_in_nI (by omega) (by omega)) dL_build_481 (fun H locs hP hD hS => ?_)
        rw [eck] at hP hD
        have hP : va_P D vwCl ([(ty, oYv F6 (.ref ra) (.ref ca6) (.ref ha) (.ref la)), (ra, aI cI nr P6), (ha, aI cI nh G6), (sm, oSv 0 (nI len) 0 g9 (.ref tt)), (tt, aQ cL n4 (va_up f k (some ty)))] ++ (LW ++ wRace cI cT r tr k1 k2 k3 ts ad1 (k + 1) 0 KF S U V T3)) H := hP
        have hD : va_D A ([(ty, oYv F6 (.ref ra) (.ref ca6) (.ref ha) (.ref la)), (ra, aI cI nr P6), (ha, aI cI nh G6), (sm, oSv 0 (nI len) 0 g9 (.ref tt)), (tt, aQ cL n4 (va_up f k (some ty)))] ++ (LW ++ wRace cI cT r tr k1 k2 k3 ts ad1 (k + 1) 0 KF S U V T3)) := hD
        obtain ⟨hP, hD⟩ := pl_perm (A' := [(sm, oSv 0 (nI len) 0 g9 (.ref tt)), (tt, aQ cL n4 (va_up f k (some ty))), (ty, oYv F6 (.ref ra) (.ref ca6) (.ref ha) (.ref la)), (ra, aI cI nr P6), (ha, aI cI nh G6)]) hP hD [3, 4, 0, 1, 2] (by decide) rfl
        have hP : va_P D vwCl (([(sm, oSv 0 (nI len) 0 g9 (.ref tt)), (tt, aQ cL n4 (va_up f k (some ty)))] ++ ((ty, oYv F6 (.ref ra) (.ref ca6) (.ref ha) (.ref la)) :: (ra, aI cI nr P6) :: (ha, aI cI nh G6) :: LW)) ++ wRace cI cT r tr k1 k2 k3 ts ad1 (k + 1) 0 KF S U V T3) H := hP
        have hD : va_D A (([(sm, oSv 0 (nI len) 0 g9 (.ref tt)), (tt, aQ cL n4 (va_up f k (some ty)))] ++ ((ty, oYv F6 (.ref ra) (.ref ca6) (.ref ha) (.ref la)) :: (ra, aI cI nr P6) :: (ha, aI cI nh G6) :: LW)) ++ wRace cI cT r tr k1 k2 k3 ts ad1 (k + 1) 0 KF S U V T3) := hD
        refine lv_iinc (v := nI (k + 1)) (lv' := [(5, .int (nI (k + 1))), (7, .ref ty), (6, .int x), (4, .int (nI n4)), (3, .int (nI j1)), (2, .ref sm), (0, .ref r), (1, .ref b)]) hx hb dL_build_482 hl (k := 2) rfl ((nI_1 k)) (by decide) rfl (fun ls hl => ?_)
        refine lv_goto (tgt := 195) hx hb dL_build_485 (by decide) ?_
        have h3 := team_3 hT1 hT2 hT3
        have hLT2 : ∀ i, i < k + 1 → LTs cI (va_up f k (some ty)) ((ty, oYv F6 (.ref ra) (.ref ca6) (.ref ha) (.ref la)) :: (ra, aI cI nr P6) :: (ha, aI cI nh G6) :: LW) T3 i := fun i hi => by
          by_cases ei : i = k
          · subst ei
            exact ⟨ty, 0, ra, 1, ha, 2, .ref ca6, .ref la, F6, P6, G6, ln, wt, nr, pu, sg, nh, ro, jf, gp, va_up_self _ _ _, rfl, rfl, rfl, hg1, hg2, h3.1, ⟨by omega, by omega⟩, ⟨by omega, by omega⟩, ⟨by omega, by omega⟩, ⟨by omega, by omega⟩, ⟨by omega, by omega⟩, ⟨by omega, by omega⟩, ⟨by omega, by omega⟩, by omega, ⟨by omega, by omega⟩⟩
          · exact (hLT i (by omega)).more _ _ _ (va_up_ne _ _ ei) (h3.2 i (by omega))
        exact ih (k + 1) (by omega) (by omega) _ ((ty, oYv F6 (.ref ra) (.ref ca6) (.ref ha) (.ref la)) :: (ra, aI cI nr P6) :: (ha, aI cI nh G6) :: LW) ad1 T3 _ _ hLT2 (by omega) (by omega) H locs hP hD hS ls (lv_sub hl [0, 3, 4, 5, 6, 7] rfl)
  have after169 : ∀ (ns : Nat) (g9 tv : Value) (KF S U V : Nat → Int32) (c1 s1 : Nat), KF 4 = nI len → TrkI KF U V ns → c1 ≤ 50 → s1 ≤ 300 → ∀ (H : Heap) (locs : List Loc), va_P D vwCl ([(sm, oSv 0 (nI len) 0 g9 tv)] ++ wRace cI cT r tr k1 k2 k3 ts ad 0 0 KF S U V T) H → va_D A ([(sm, oSv 0 (nI len) 0 g9 tv)] ++ wRace cI cT r tr k1 k2 k3 ts ad 0 0 KF S U V T) → va_S A s.heap H locs → ∀ (ls : Array Slot), lv_has ls 8 [(3, .int (nI j1)), (2, .ref sm), (0, .ref r), (1, .ref b)] → W p l e rmL_build s m args below meth c H locs  c1 s1 Q (F0 m 169 ls []) := by
    intro ns g9 tv KF S U V c1 s1 hKF4 hTk hc1 hs1 H locs hP hD hS ls hl
    refine lv_iconst (v := nI 1) hx hb dL_build_169 (by decide) ?_
    refine lv_aload_n hx hb dL_build_170 rfl (lv_at hl 3 rfl) ?_
    refine lv_bipush (v := nI 9) hx hb dL_build_171 (by decide) ?_
    refine pl_cel (rest := [.int (nI 1)]) (As := [.ref b, .int (nI (9))]) ⟨hx, hb, hml, hown, hts⟩ (mL_cell l b L (9) xs hL (by omega)) (va_cwS 2 hts gL_build_L_cell rfl rfl rfl (by decide +kernel) ⟨Nat.le_of_ble_eq_true rfl, Nat.le_of_ble_eq_true rfl⟩) hXs hbl hbA hS rfl hl.1 rfl (Nat.le_of_ble_eq_true rfl) dL_build_173 ⟨show c1 ≤ 200 by omega, show s1 ≤ 2000 by omega⟩ ?_
    refine lv_topi (fun x ex => ?_)
    clear ex
    refine lv_iconst (v := nI 4) hx hb dL_build_176 (by decide) ?_
    obtain ⟨j2, ej2⟩ : ∃ j, j = bel (x) 4 := ⟨_, rfl⟩
    have hj2 : j2 < 4 := by rw [ej2]; exact bel_lt _ (by decide)
    refine sp_rS (rest := [.int (nI 1)]) (As := [.int (x), .int (nI 4)]) ⟨hx, hb, hml, hown, hts⟩ (mL_below l D cI cT (x) 4 (by decide) (by decide)) (va_cwS 2 hts gL_build_L_below rfl rfl rfl (by decide +kernel) ⟨Nat.le_of_ble_eq_true rfl, Nat.le_of_ble_eq_true rfl⟩) hX.1 (show va_P D vwCl [] _ from fun k q h => by simp at h) rfl hl.1 rfl (Nat.le_of_ble_eq_true rfl) dL_build_177 ⟨show c1 ≤ 200 by omega, show s1 ≤ 2000 by omega⟩ ?_
    refine sp_top (show nI (bel (x) 4) = nI j2 from by rw [ej2]) ?_
    refine lv_iadd hx hb dL_build_180 ?_
    refine sp_top (show (nI 1) + (nI j2) = nI (1 + j2) from nI_add 1 j2) ?_
    obtain ⟨n4, hn4⟩ : ∃ z, z = 1 + j2 := ⟨_, rfl⟩
    refine sp_top (show nI (1 + j2) = nI n4 from by rw [hn4]) ?_
    refine lv_istore (lv' := [(4, .int (nI n4)), (3, .int (nI j1)), (2, .ref sm), (0, .ref r), (1, .ref b)]) hx hb dL_build_181 hl (by decide) rfl (fun ls hl => ?_)
    refine lv_aload_n hx hb dL_build_183 rfl (lv_at hl 2 rfl) ?_
    refine lv_iload hx hb dL_build_184 (lv_at hl 0 rfl) ?_
    refine pl_newl hx hb hown (hts (.classLink RL 43 RX4) (by decide +kernel)) hX hP hD hS hA n4 rfl (by omega) (show c1 + 1 ≤ 200 by omega) (show s1 + n4 ≤ 2000 by omega) dL_build_186 (fun tt H hP hD hS => ?_)
    refine va_put (D := D) (ci := 3) (v := .ref tt) (ty := (.array (.object "SledgeRaceLaw$Team"))) (C := RX3) (T := TX3) (N := 5) hx hb hts hiX3 tyX3 tyX3_ok nmX3 hown hX.2.1 hP hD hS 1 rfl rfl 4 (by decide) (hts (.fieldLink RL 45 "SledgeRaceLaw$Sim" "teams" "[LSledgeRaceLaw$Team;") (by decide +kernel)) (fun _ h9 => h9) rfl (by decide +kernel) rfl rfl (Nat.le_of_ble_eq_true rfl) dL_build_189 (fun H locs hP hD hS => ?_)
    have hP : va_P D vwCl ([(tt, aQ cL n4 (fun _ => none)), (sm, oSv 0 (nI len) 0 g9 (.ref tt))] ++ wRace cI cT r tr k1 k2 k3 ts ad 0 0 KF S U V T) H := hP
    have hD : va_D A ([(tt, aQ cL n4 (fun _ => none)), (sm, oSv 0 (nI len) 0 g9 (.ref tt))] ++ wRace cI cT r tr k1 k2 k3 ts ad 0 0 KF S U V T) := hD
    obtain ⟨hP, hD⟩ := pl_perm (A' := [(sm, oSv 0 (nI len) 0 g9 (.ref tt)), (tt, aQ cL n4 (fun _ => none))]) hP hD [1, 0] (by decide) rfl
    have hP : va_P D vwCl (([(sm, oSv 0 (nI len) 0 g9 (.ref tt)), (tt, aQ cL n4 (fun _ => none))] ++ []) ++ wRace cI cT r tr k1 k2 k3 ts ad 0 0 KF S U V T) H := hP
    have hD : va_D A (([(sm, oSv 0 (nI len) 0 g9 (.ref tt)), (tt, aQ cL n4 (fun _ => none))] ++ []) ++ wRace cI cT r tr k1 k2 k3 ts ad 0 0 KF S U V T) := hD
    refine lv_iconst (v := nI 0) hx hb dL_build_192 (by decide) ?_
    refine lv_istore (lv' := [(5, .int (nI 0)), (4, .int (nI n4)), (3, .int (nI j1)), (2, .ref sm), (0, .ref r), (1, .ref b)]) hx hb dL_build_193 hl (by decide) rfl (fun ls hl => ?_)
    exact loop195 n4 ns tt g9 KF S U V (by omega) (by omega) hKF4 hTk _ 0 (Nat.lt_succ_self _) (Nat.zero_le _) _ [] ad T _ _ (fun i hi => absurd hi (Nat.not_lt_zero i)) (show c1 + 1 ≤ 60 + 20 * 0 by omega) (show s1 + n4 ≤ 400 + 150 * 0 by omega) H locs hP hD hS ls (lv_sub hl [0, 1, 2, 3, 4, 5] rfl)
  have loop58 : ∀ (fu k : Nat), j1 - k < fu → k ≤ j1 → ∀ (g ns : Nat) (f : Nat → Option Nat) (st : Nat → Int32) (GW : va_W) (KF S U V : Nat → Int32) (c1 s1 : Nat), GOK cI GW ns f st → GndI S ns st → TrkI KF U V ns → KF 4 = nI len → ns ≤ 1 + k → c1 ≤ 10 + 4 * k → s1 ≤ 60 + 28 * k → ∀ (H : Heap) (locs : List Loc), va_P D vwCl (([(sm, oSv 0 (nI len) 0 (.ref g) (.ref tt0)), (g, aQ cG ns f)] ++ GW) ++ wRace cI cT r tr k1 k2 k3 ts ad 0 0 KF S U V T) H → va_D A (([(sm, oSv 0 (nI len) 0 (.ref g) (.ref tt0)), (g, aQ cG ns f)] ++ GW) ++ wRace cI cT r tr k1 k2 k3 ts ad 0 0 KF S U V T) → va_S A s.heap H locs → ∀ (ls : Array Slot), lv_has ls 8 [(4, .int (nI k)), (3, .int (nI j1)), (2, .ref sm), (0, .ref r), (1, .ref b)] → W p l e rmL_build s m args below meth c H locs  c1 s1 Q (F0 m 58 ls []) := by
    intro fu
    induction fu with
    | zero => intro k hfu; exact absurd hfu (Nat.not_lt_zero _)
    | succ fu ih =>
      intro k hfu hk g ns f st GW KF S U V c1 s1 hG hGn hTk hKF4 hns hc1 hs1 H locs hP hD hS ls hl
      refine lv_iload hx hb dL_build_58 (lv_at hl 0 rfl) ?_
      refine lv_iload_n hx hb dL_build_60 rfl (lv_at hl 1 rfl) ?_
      refine sp_ge (by omega) (by omega) (tgt := 169) hx hb dL_build_61 (by decide) (fun hc9 => ?_) (fun hc9 => ?_)
      · skip
        obtain ⟨hP, hD⟩ := pl_drop hP hD
        obtain ⟨hP, hD⟩ := pl_perm (A' := [(sm, oSv 0 (nI len) 0 (.ref g) (.ref tt0))]) hP hD [0] (by decide) rfl
        exact after169 ns (.ref g) (.ref tt0) KF S U V c1 s1 hKF4 hTk (by omega) (by omega) H locs hP hD hS ls (lv_sub hl [1, 2, 3, 4] rfl)
      · skip
        refine lv_aload_n hx hb dL_build_64 rfl (lv_at hl 4 rfl) ?_
        refine lv_iconst (v := nI 1) hx hb dL_build_65 (by decide) ?_
        refine lv_iload hx hb dL_build_66 (lv_at hl 0 rfl) ?_
        refine lv_iadd hx hb dL_build_68 ?_
        refine sp_top (show (nI 1) + (nI k) = nI (1 + k) from nI_add 1 k) ?_
        refine pl_cel (rest := []) (As := [.ref b, .int (nI (1 + k))]) ⟨hx, hb, hml, hown, hts⟩ (mL_cell l b L (1 + k) xs hL (by omega)) (va_cwS 2 hts gL_build_L_cell rfl rfl rfl (by decide +kernel) ⟨Nat.le_of_ble_eq_true rfl, Nat.le_of_ble_eq_true rfl⟩) hXs hbl hbA hS rfl hl.1 rfl (Nat.le_of_ble_eq_true rfl) dL_build_69 ⟨show c1 ≤ 200 by omega, show s1 ≤ 2000 by omega⟩ ?_
        refine lv_topi (fun x ex => ?_)
        clear ex
        refine lv_istore (lv' := [(5, .int x), (4, .int (nI k)), (3, .int (nI j1)), (2, .ref sm), (0, .ref r), (1, .ref b)]) hx hb dL_build_72 hl (by decide) rfl (fun ls hl => ?_)
        have after97 : ∀ (fr : Nat), fr < 700 → ∀ (ls : Array Slot), lv_has ls 8 [(5, .int x), (4, .int (nI k)), (3, .int (nI j1)), (2, .ref sm), (0, .ref r), (1, .ref b)] → W p l e rmL_build s m args below meth c H locs  c1 s1 Q (F0 m 97 ls [.int (nI fr)]) := by
          intro fr hfr ls hl
          refine lv_istore (lv' := [(6, .int (nI fr)), (5, .int x), (4, .int (nI k)), (3, .int (nI j1)), (2, .ref sm), (0, .ref r), (1, .ref b)]) hx hb dL_build_97 hl (by decide) rfl (fun ls hl => ?_)
          refine lv_aload_n hx hb dL_build_99 rfl (lv_at hl 4 rfl) ?_
          refine lv_iload hx hb dL_build_100 (lv_at hl 0 rfl) ?_
          refine lv_iload hx hb dL_build_102 (lv_at hl 1 rfl) ?_
          refine lv_iconst (v := 4) hx hb dL_build_104 (by decide) ?_
          refine lv_ishr hx hb dL_build_105 ?_
          refine lv_bipush (v := nI 11) hx hb dL_build_106 (by decide) ?_
          obtain ⟨ja, eja⟩ : ∃ j, j = bel (x >>> (4 &&& 31)) 11 := ⟨_, rfl⟩
          have hja : ja < 11 := by rw [eja]; exact bel_lt _ (by decide)
          refine sp_rS (rest := [.int (nI fr), .ref sm]) (As := [.int (x >>> (4 &&& 31)), .int (nI 11)]) ⟨hx, hb, hml, hown, hts⟩ (mL_below l D cI cT (x >>> (4 &&& 31)) 11 (by decide) (by decide)) (va_cwS 2 hts gL_build_L_below rfl rfl rfl (by decide +kernel) ⟨Nat.le_of_ble_eq_true rfl, Nat.le_of_ble_eq_true rfl⟩) hX.1 (show va_P D vwCl [] _ from fun k q h => by simp at h) rfl hl.1 rfl (Nat.le_of_ble_eq_true rfl) dL_build_108 ⟨show c1 ≤ 200 by omega, show s1 ≤ 2000 by omega⟩ ?_
          refine sp_top (show nI (bel (x >>> (4 &&& 31)) 11) = nI ja from by rw [eja]) ?_
          refine lv_iconst (v := 5) hx hb dL_build_111 (by decide) ?_
          refine lv_isub hx hb dL_build_112 ?_
          refine lv_iload hx hb dL_build_113 (lv_at hl 1 rfl) ?_
          refine lv_bipush (v := 6) hx hb dL_build_115 (by decide) ?_
          refine lv_ishr hx hb dL_build_117 ?_
          refine lv_bipush (v := nI 10) hx hb dL_build_118 (by decide) ?_
          obtain ⟨jb, ejb⟩ : ∃ j, j = bel (x >>> (6 &&& 31)) 10 := ⟨_, rfl⟩
          have hjb : jb < 10 := by rw [ejb]; exact bel_lt _ (by decide)
          refine sp_rS (rest := [.int ((nI ja) - 5), .int (nI fr), .ref sm]) (As := [.int (x >>> (6 &&& 31)), .int (nI 10)]) ⟨hx, hb, hml, hown, hts⟩ (mL_below l D cI cT (x >>> (6 &&& 31)) 10 (by decide) (by decide)) (va_cwS 2 hts gL_build_L_below rfl rfl rfl (by decide +kernel) ⟨Nat.le_of_ble_eq_true rfl, Nat.le_of_ble_eq_true rfl⟩) hX.1 (show va_P D vwCl [] _ from fun k q h => by simp at h) rfl hl.1 rfl (Nat.le_of_ble_eq_true rfl) dL_build_120 ⟨show c1 ≤ 200 by omega, show s1 ≤ 2000 by omega⟩ ?_
          refine sp_top (show nI (bel (x >>> (6 &&& 31)) 10) = nI jb from by rw [ejb]) ?_
          refine pl_vK (w := [(sm, oSv 0 (nI len) 0 (.ref g) (.ref tt0)), (g, aQ cG ns f)] ++ GW) (W0 := wRace cI cT r tr k1 k2 k3 ts ad 0 0 KF S U V T) (rest := []) (As := [.int (nI fr), .int (nI ja - 5), .int (nI jb)]) ⟨hx, hb, hml, hown, hts⟩ (mX3_lay l D cI cT cL cG cZ H.size sm g ns (by omega) 0 (nI len) 0 (nI fr) (nI ja - 5) (nI jb) (.ref tt0) f st GW hG) (cwV 3 hts gL_build_X3_lay rfl rfl rfl (by decide +kernel) ⟨Nat.le_of_ble_eq_true rfl, Nat.le_of_ble_eq_true rfl⟩) hX hP hD hS hA (ci := 3) rfl rfl rfl rfl hl.1 rfl (Nat.le_of_ble_eq_true rfl) dL_build_123 ⟨show c1 + 2 ≤ 200 by omega, show s1 + 16 ≤ 2000 by omega⟩ (fun u H locs hgood hP hD hS => ?_)
          obtain ⟨g1, f1, GW1⟩ := u
          have hG1 : GOK cI GW1 (gM st ns (nI fr)) f1 (gS st ns (nI fr)) := hgood
          have hMs := gnd_ns (x := nI fr) hGn
          rw [hMs] at hG1
          have hP : va_P D vwCl (([(sm, oSv 0 (nI len) 0 (.ref g1) (.ref tt0)), (g1, aQ cG (cNs S ns (nI fr)) f1)] ++ GW1) ++ wRace cI cT r tr k1 k2 k3 ts ad 0 0 KF S U V T) H := by rw [← hMs]; exact hP
          have hD : va_D A (([(sm, oSv 0 (nI len) 0 (.ref g1) (.ref tt0)), (g1, aQ cG (cNs S ns (nI fr)) f1)] ++ GW1) ++ wRace cI cT r tr k1 k2 k3 ts ad 0 0 KF S U V T) := by rw [← hMs]; exact hD
          refine lv_aload_n hx hb dL_build_126 rfl (lv_at hl 5 rfl) ?_
          refine lv_iload hx hb dL_build_127 (lv_at hl 0 rfl) ?_
          refine lv_iload hx hb dL_build_129 (lv_at hl 1 rfl) ?_
          refine lv_iconst (v := 4) hx hb dL_build_131 (by decide) ?_
          refine lv_ishr hx hb dL_build_132 ?_
          refine lv_bipush (v := nI 11) hx hb dL_build_133 (by decide) ?_
          refine sp_rS (rest := [.int (nI fr), .ref r]) (As := [.int (x >>> (4 &&& 31)), .int (nI 11)]) ⟨hx, hb, hml, hown, hts⟩ (mL_below l D cI cT (x >>> (4 &&& 31)) 11 (by decide) (by decide)) (va_cwS 2 hts gL_build_L_below rfl rfl rfl (by decide +kernel) ⟨Nat.le_of_ble_eq_true rfl, Nat.le_of_ble_eq_true rfl⟩) hX.1 (show va_P D vwCl [] _ from fun k q h => by simp at h) rfl hl.1 rfl (Nat.le_of_ble_eq_true rfl) dL_build_135 ⟨show c1 + 2 ≤ 200 by omega, show s1 + 16 ≤ 2000 by omega⟩ ?_
          refine sp_top (show nI (bel (x >>> (4 &&& 31)) 11) = nI ja from by rw [eja]) ?_
          refine lv_iconst (v := 5) hx hb dL_build_138 (by decide) ?_
          refine lv_isub hx hb dL_build_139 ?_
          refine lv_iload hx hb dL_build_140 (lv_at hl 1 rfl) ?_
          refine lv_bipush (v := 6) hx hb dL_build_142 (by decide) ?_
          refine lv_ishr hx hb dL_build_144 ?_
          refine lv_bipush (v := nI 10) hx hb dL_build_145 (by decide) ?_
          refine sp_rS (rest := [.int ((nI ja) - 5), .int (nI fr), .ref r]) (As := [.int (x >>> (6 &&& 31)), .int (nI 10)]) ⟨hx, hb, hml, hown, hts⟩ (mL_below l D cI cT (x >>> (6 &&& 31)) 10 (by decide) (by decide)) (va_cwS 2 hts gL_build_L_below rfl rfl rfl (by decide +kernel) ⟨Nat.le_of_ble_eq_true rfl, Nat.le_of_ble_eq_true rfl⟩) hX.1 (show va_P D vwCl [] _ from fun k q h => by simp at h) rfl hl.1 rfl (Nat.le_of_ble_eq_true rfl) dL_build_147 ⟨show c1 + 2 ≤ 200 by omega, show s1 + 16 ≤ 2000 by omega⟩ ?_
          refine sp_top (show nI (bel (x >>> (6 &&& 31)) 10) = nI jb from by rw [ejb]) ?_
          refine pl_sO (W0 := [(sm, oSv 0 (nI len) 0 (.ref g1) (.ref tt0)), (g1, aQ cG (cNs S ns (nI fr)) f1)] ++ GW1) (w' := wRace cI cT r tr k1 k2 k3 ts ad 0 0 (cPutK S ns (nI fr) KF) (cPut S ns (nI fr) S (nI fr)) (cPut S ns (nI fr) U (nI ja - 5)) (cPut S ns (nI fr) V (nI jb)) T) (rest := []) (As := [.int (nI fr), .int ((nI ja) - 5), .int (nI jb)]) ⟨hx, hb, hml, hown, hts⟩ (mX2_lay l D cI cT hl9 H.size r tr k1 k2 k3 ts ad 0 (by decide) 0 KF S U V T ns (by omega) hTk.1 (nI fr) (nI ja - 5) (nI jb)) (cwV 3 hts gL_build_X2_lay rfl rfl rfl (by decide +kernel) ⟨Nat.le_of_ble_eq_true rfl, Nat.le_of_ble_eq_true rfl⟩) (lay_res (by omega) hja hjb (by omega)) hX.1 hXZ hXS hP hD hS hA (xb_fst rfl cI ad _ _ _) (ci := 2) rfl rfl rfl rfl hl.1 rfl (Nat.le_of_ble_eq_true rfl) dL_build_150 ⟨by decide, by decide⟩ ⟨show c1 + 2 + 2 ≤ 200 by omega, show s1 + 16 + 12 ≤ 2000 by omega⟩ (fun H locs hP hD hS => ?_)
          have hP : va_P D vwCl (([(sm, oSv 0 (nI len) 0 (.ref g1) (.ref tt0)), (g1, aQ cG (cNs S ns (nI fr)) f1)] ++ GW1) ++ wRace cI cT r tr k1 k2 k3 ts ad 0 0 (cPutK S ns (nI fr) KF) (cPut S ns (nI fr) S (nI fr)) (cPut S ns (nI fr) U (nI ja - 5)) (cPut S ns (nI fr) V (nI jb)) T) H := hP
          have hD : va_D A (([(sm, oSv 0 (nI len) 0 (.ref g1) (.ref tt0)), (g1, aQ cG (cNs S ns (nI fr)) f1)] ++ GW1) ++ wRace cI cT r tr k1 k2 k3 ts ad 0 0 (cPutK S ns (nI fr) KF) (cPut S ns (nI fr) S (nI fr)) (cPut S ns (nI fr) U (nI ja - 5)) (cPut S ns (nI fr) V (nI jb)) T) := hD
          refine sp_top (show cPutK S ns (nI fr) KF 3 = nI (cNs S ns (nI fr)) from putK_3 hTk.1 (by omega)) ?_
          refine lv_aload_n hx hb dL_build_153 rfl (lv_at hl 4 rfl) ?_
          refine va_get (D := D) (ci := 3) (v := .ref g1) (C := RX3) (T := TX3) (N := 5) hx hb hts hiX3 hown hX.2.1 hP 0 rfl rfl 3 (by decide) (hts (.fieldLink RL 39 "SledgeRaceLaw$Sim" "ground" "[[I") (by decide +kernel)) (fun _ h9 => h9) rfl dL_build_154 ?_
          refine va_alen hx hb hX.2.1 hP 1 2 rfl rfl (v := nI (cNs S ns (nI fr))) rfl dL_build_157 ?_
          refine lv_icmp_eq (tgt := 163) hx hb dL_build_158 (by decide) (fun _ => ?_) (fun c => absurd rfl c)
          refine lv_iinc (v := nI (k + 1)) (lv' := [(4, .int (nI (k + 1))), (6, .int (nI fr)), (5, .int x), (3, .int (nI j1)), (2, .ref sm), (0, .ref r), (1, .ref b)]) hx hb dL_build_163 hl (k := 2) rfl ((nI_1 k)) (by decide) rfl (fun ls hl => ?_)
          refine lv_goto (tgt := 58) hx hb dL_build_166 (by decide) ?_
          have e5 := in_m5 hja
          have hjb2 : (nI jb).toInt = (jb : Int) := nI_toInt (by omega)
          have hcn : cNs S ns (nI fr) ≤ ns + 1 := by unfold cNs; split <;> omega
          have hK4 : cPutK S ns (nI fr) KF 4 = nI len := by unfold cPutK; split <;> exact hKF4
          exact ih (k + 1) (by omega) (by omega) g1 _ f1 _ GW1 _ _ _ _ _ _ hG1 (gnd_step hGn (by omega)) (trk_step hTk (by omega) ⟨by omega, by omega⟩ ⟨by omega, by omega⟩) hK4 (by omega) (by omega) (by omega) H locs hP hD hS ls (lv_sub hl [0, 3, 4, 5, 6] rfl)
        refine lv_iload hx hb dL_build_74 (lv_at hl 0 rfl) ?_
        refine lv_iconst (v := nI 5) hx hb dL_build_76 (by decide) ?_
        obtain ⟨jz, ejz⟩ : ∃ j, j = bel (x) 5 := ⟨_, rfl⟩
        have hjz : jz < 5 := by rw [ejz]; exact bel_lt _ (by decide)
        refine sp_rS (rest := []) (As := [.int (x), .int (nI 5)]) ⟨hx, hb, hml, hown, hts⟩ (mL_below l D cI cT (x) 5 (by decide) (by decide)) (va_cwS 2 hts gL_build_L_below rfl rfl rfl (by decide +kernel) ⟨Nat.le_of_ble_eq_true rfl, Nat.le_of_ble_eq_true rfl⟩) hX.1 (show va_P D vwCl [] _ from fun k q h => by simp at h) rfl hl.1 rfl (Nat.le_of_ble_eq_true rfl) dL_build_77 ⟨show c1 ≤ 200 by omega, show s1 ≤ 2000 by omega⟩ ?_
        refine sp_top (show nI (bel (x) 5) = nI jz from by rw [ejz]) ?_
        refine lv_if_ne (tgt := 87) hx hb dL_build_80 (by decide) (fun cz => ?_) (fun cz => ?_)
        · skip
          refine lv_iload hx hb dL_build_87 (lv_at hl 0 rfl) ?_
          refine lv_iconst (v := 2) hx hb dL_build_89 (by decide) ?_
          refine lv_ishr hx hb dL_build_90 ?_
          refine lv_sipush (v := nI 700) hx hb dL_build_91 (by decide) ?_
          obtain ⟨jy, ejy⟩ : ∃ j, j = bel (x >>> (2 &&& 31)) 700 := ⟨_, rfl⟩
          have hjy : jy < 700 := by rw [ejy]; exact bel_lt _ (by decide)
          refine sp_rS (rest := []) (As := [.int (x >>> (2 &&& 31)), .int (nI 700)]) ⟨hx, hb, hml, hown, hts⟩ (mL_below l D cI cT (x >>> (2 &&& 31)) 700 (by decide) (by decide)) (va_cwS 2 hts gL_build_L_below rfl rfl rfl (by decide +kernel) ⟨Nat.le_of_ble_eq_true rfl, Nat.le_of_ble_eq_true rfl⟩) hX.1 (show va_P D vwCl [] _ from fun k q h => by simp at h) rfl hl.1 rfl (Nat.le_of_ble_eq_true rfl) dL_build_94 ⟨show c1 ≤ 200 by omega, show s1 ≤ 2000 by omega⟩ ?_
          refine sp_top (show nI (bel (x >>> (2 &&& 31)) 700) = nI jy from by rw [ejy]) ?_
          exact after97 jy hjy ls (lv_sub hl [0, 1, 2, 3, 4, 5] rfl)
        · skip
          refine lv_iconst (v := nI 0) hx hb dL_build_83 (by decide) ?_
          refine lv_goto (tgt := 97) hx hb dL_build_84 (by decide) ?_
          exact after97 0 (by decide) ls (lv_sub hl [0, 1, 2, 3, 4, 5] rfl)
  have hG0 : GOK cI [(a9, aI cI 3 f3)] 1 (va_up (fun _ => none) 0 (some a9)) (fun _ => 0) := gok_up (i := 0) (q := 0) gok_0 rfl hgood
  have hGn0 : GndI (fun _ => 0) 1 (fun _ => 0) := ⟨fun i j h1 h2 => absurd h1 (by omega), fun v => Iff.rfl⟩
  have hlT : (nI len).toInt = (len : Int) := nI_toInt (by omega)
  have hTk0 : TrkI (upd cTrackF 4 (nI len)) (fun _ => 0) (upd (fun _ => 0) 0 2) 1 := by
    refine ⟨rfl, by decide, by decide, ⟨by show 100 ≤ (nI len).toInt; omega, by show (nI len).toInt ≤ 2000; omega⟩, fun i hi => ?_⟩
    have ei : i = 0 := by omega
    subst ei
    exact ⟨⟨by decide, by decide⟩, by decide, by decide⟩
  exact loop58 _ 0 (Nat.lt_succ_self _) (Nat.zero_le _) g0 1 _ _ _ _ _ _ _ _ _ hG0 hGn0 hTk0 rfl (by decide) (by decide) (by decide) H locs hP hD hS ls (lv_sub hl [0, 1, 2, 3, 4] rfl)
