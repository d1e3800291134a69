abbrev rmX2_passTick : Room := { frames := 4, cells := 0, slots := 0, locals := 94 }
set_option maxHeartbeats 4000000 in
set_option maxRecDepth 100000 in
/-- a tick passes -/
theorem mX2_passTick (l : Launch) (D : va_G) (cI cT : ClassId) (r tr k1 k2 k3 ts : Nat) (ad : Nat → Nat → Nat) (n : Nat) (hn : n ≤ 6) (tick : Int32) (KF S U V : Nat → Int32) (T : Nat → TV) (hT : cTeams T n) (ns : Nat) (hns : ns ≤ 12) (hk : KF 3 = nI ns) : MetV l D cI cT yX2_passTick wsX2_passTick rmX2_passTick [.ref r] ([(r, oR tr ts (ad 0 0) (ad 1 0) (nI n) tick), (tr, oK KF k1 k2 k3), (k1, aI cI 12 S), (k2, aI cI 12 U), (k3, aI cI 12 V), (ts, aQ cT 6 (tq ad n))] ++ blks cI ad T (n + 2)) [] ([(r, oR tr ts (ad 0 0) (ad 1 0) (nI n) (tick + 1)), (tr, oK KF k1 k2 k3), (k1, aI cI 12 S), (k2, aI cI 12 U), (k3, aI cI 12 V), (ts, aQ cT 6 (tq ad n))] ++ blks cI ad (eachT (cTickN S U V ns (KF 4) (tick + 1)) T n) (n + 2)) := by
  refine Met.ofW (cc := cX2_passTick) (maxL := 5) (ret := none) (by decide) rfl ?_
  intro p e s m args below meth c s₁ B hml hv
  obtain ⟨hargs, hP, hR0, hK, hN⟩ := hv
  have hx := B.exec
  have hb := B.bytes
  have hr := B.returns
  have hts := atoms_spec (ws := wsX2_passTick) B.pre
  have hown : s.vm.findClass RX2 = some m.cls := findClass_of_methodNamed B.named
  have hlocks := B.notSynchronized
  have hiX2 : ∀ w ∈ u_ws RX2 TX2 6, w ∈ wsX2_passTick := by decide +kernel
  have he : entryFrame m args 5 = F0 m 0 ((lg_sl [.ref r] ++ List.replicate (5 - (lg_sl [.ref r]).length) Slot.unset).toArray) [] := by rw [hargs]; exact lg_entry_eq m _ _
  rw [he]
  change W p l e rmX2_passTick s m args below meth c s.heap [] 0 0 (MQ below (va_Qv (S := Unit) (fun _ => True) (fun _ t => va_P D vwCl ([(r, oR tr ts (ad 0 0) (ad 1 0) (nI n) (tick + 1)), (tr, oK KF k1 k2 k3), (k1, aI cI 12 S), (k2, aI cI 12 U), (k3, aI cI 12 V), (ts, aQ cT 6 (tq ad n))] ++ blks cI ad (eachT (cTickN S U V ns (KF 4) (tick + 1)) T n) (n + 2)) t.heap) (fr (List.map Prod.fst ([(r, oR tr ts (ad 0 0) (ad 1 0) (nI n) tick), (tr, oK KF k1 k2 k3), (k1, aI cI 12 S), (k2, aI cI 12 U), (k3, aI cI 12 V), (ts, aQ cT 6 (tq ad n))] ++ blks cI ad T (n + 2))))) args s 0 0 (fr (List.map Prod.fst ([(r, oR tr ts (ad 0 0) (ad 1 0) (nI n) tick), (tr, oK KF k1 k2 k3), (k1, aI cI 12 S), (k2, aI cI 12 U), (k3, aI cI 12 V), (ts, aQ cT 6 (tq ad n))] ++ blks cI ad T (n + 2))))) _
  obtain ⟨Q, hQ⟩ : ∃ Q, Q = MQ below (va_Qv (S := Unit) (fun _ => True) (fun _ t => va_P D vwCl ([(r, oR tr ts (ad 0 0) (ad 1 0) (nI n) (tick + 1)), (tr, oK KF k1 k2 k3), (k1, aI cI 12 S), (k2, aI cI 12 U), (k3, aI cI 12 V), (ts, aQ cT 6 (tq ad n))] ++ blks cI ad (eachT (cTickN S U V ns (KF 4) (tick + 1)) T n) (n + 2)) t.heap) (fr (List.map Prod.fst ([(r, oR tr ts (ad 0 0) (ad 1 0) (nI n) tick), (tr, oK KF k1 k2 k3), (k1, aI cI 12 S), (k2, aI cI 12 U), (k3, aI cI 12 V), (ts, aQ cT 6 (tq ad n))] ++ blks cI ad T (n + 2))))) args s 0 0 (fr (List.map Prod.fst ([(r, oR tr ts (ad 0 0) (ad 1 0) (nI n) tick), (tr, oK KF k1 k2 k3), (k1, aI cI 12 S), (k2, aI cI 12 U), (k3, aI cI 12 V), (ts, aQ cT 6 (tq ad n))] ++ blks cI ad T (n + 2)))) := ⟨_, rfl⟩
  rw [← hQ]
  have hl := lv_entry [.ref r] (n := 5) (Nat.le_of_ble_eq_true rfl)
  generalize (lg_sl [.ref r] ++ List.replicate (5 - (lg_sl [.ref r]).length) Slot.unset).toArray = ls at hl ⊢
  have hl : lv_has ls 5 [(0, .ref r)] := hl
  obtain ⟨A, hAe⟩ : ∃ A, A = (fr (List.map Prod.fst ([(r, oR tr ts (ad 0 0) (ad 1 0) (nI n) tick), (tr, oK KF k1 k2 k3), (k1, aI cI 12 S), (k2, aI cI 12 U), (k3, aI cI 12 V), (ts, aQ cT 6 (tq ad n))] ++ blks cI ad T (n + 2)))) := ⟨_, rfl⟩
  have hA0 : ∀ q ∈ List.map Prod.fst ([(r, oR tr ts (ad 0 0) (ad 1 0) (nI n) tick), (tr, oK KF k1 k2 k3), (k1, aI cI 12 S), (k2, aI cI 12 U), (k3, aI cI 12 V), (ts, aQ cT 6 (tq ad n))] ++ blks cI ad T (n + 2)), A q := by rw [hAe]; exact fun q h => h
  have hD : va_D A ([(r, oR tr ts (ad 0 0) (ad 1 0) (nI n) tick), (tr, oK KF k1 k2 k3), (k1, aI cI 12 S), (k2, aI cI 12 U), (k3, aI cI 12 V), (ts, aQ cT 6 (tq ad n))] ++ blks cI ad T (n + 2)) := sp_D (List.nodup_append.mp (show ((([(r, oR tr ts (ad 0 0) (ad 1 0) (nI n) tick), (tr, oK KF k1 k2 k3), (k1, aI cI 12 S), (k2, aI cI 12 U), (k3, aI cI 12 V), (ts, aQ cT 6 (tq ad n))] ++ blks cI ad T (n + 2)) : va_W).map Prod.fst ++ ([] : va_W).map Prod.fst).Nodup by rw [← List.map_append]; exact hN)).1 hA0
  have hN : (List.map Prod.fst (([(r, oR tr ts (ad 0 0) (ad 1 0) (nI n) tick), (tr, oK KF k1 k2 k3), (k1, aI cI 12 S), (k2, aI cI 12 U), (k3, aI cI 12 V), (ts, aQ cT 6 (tq ad n))] ++ blks cI ad T (n + 2)) ++ []) : List Nat).Nodup := hN
  have hS : va_S A s.heap s.heap [] := va_S.rf
  obtain ⟨H, hH0⟩ : ∃ H, H = s.heap := ⟨_, rfl⟩
  obtain ⟨locs, hlo⟩ : ∃ L : List Loc, L = [] := ⟨_, rfl⟩
  have hP : va_P D vwCl ([(r, oR tr ts (ad 0 0) (ad 1 0) (nI n) tick), (tr, oK KF k1 k2 k3), (k1, aI cI 12 S), (k2, aI cI 12 U), (k3, aI cI 12 V), (ts, aQ cT 6 (tq ad n))] ++ blks cI ad T (n + 2)) H := by rw [hH0]; exact hP
  have hS : va_S A s.heap H locs := by rw [hH0, hlo]; exact hS
  rw [show W p l e rmX2_passTick s m args below meth c s.heap [] 0 0 Q (F0 m 0 ls []) = W p l e rmX2_passTick s m args below meth c H locs 0 0 Q (F0 m 0 ls []) by rw [hH0, hlo]]
  clear hH0 hlo
  refine lv_aload_n hx hb dX2_passTick_0 rfl (lv_at hl 0 rfl) ?_
  refine lv_dup hx hb dX2_passTick_1 rfl ?_
  refine va_get (D := D) (ci := 2) (v := .int tick) (C := RX2) (T := TX2) (N := 6) hx hb hts hiX2 hown hK.1 hP 0 rfl rfl 5 (by decide) (hts (.fieldLink RX2 36 "SledgeRace" "tick" "I") (by decide +kernel)) (fun _ h9 => h9) rfl dX2_passTick_2 ?_
  refine lv_iconst (v := 1) hx hb dX2_passTick_5 (by decide) ?_
  refine lv_iadd hx hb dX2_passTick_6 ?_
  refine va_put (D := D) (ci := 2) (v := .int (tick + 1)) (ty := .int) (C := RX2) (T := TX2) (N := 6) hx hb hts hiX2 tyX2 tyX2_ok nmX2 hown hK.1 hP hD hS 0 rfl rfl 5 (by decide) (hts (.fieldLink RX2 36 "SledgeRace" "tick" "I") (by decide +kernel)) (fun _ h9 => h9) rfl (by decide +kernel) rfl rfl (Nat.le_of_ble_eq_true rfl) dX2_passTick_7 (fun H locs hP hD hS => ?_)
  have hP : va_P D vwCl ([(r, oR tr ts (ad 0 0) (ad 1 0) (nI n) (tick + 1)), (tr, oK KF k1 k2 k3), (k1, aI cI 12 S), (k2, aI cI 12 U), (k3, aI cI 12 V), (ts, aQ cT 6 (tq ad n))] ++ blks cI ad T (n + 2)) H := hP
  have hD : va_D A ([(r, oR tr ts (ad 0 0) (ad 1 0) (nI n) (tick + 1)), (tr, oK KF k1 k2 k3), (k1, aI cI 12 S), (k2, aI cI 12 U), (k3, aI cI 12 V), (ts, aQ cT 6 (tq ad n))] ++ blks cI ad T (n + 2)) := hD
  refine lv_aload_n hx hb dX2_passTick_10 rfl (lv_at hl 0 rfl) ?_
  refine va_get (D := D) (ci := 2) (v := .ref ts) (C := RX2) (T := TX2) (N := 6) hx hb hts hiX2 hown hK.1 hP 0 rfl rfl 1 (by decide) (hts (.fieldLink RX2 18 "SledgeRace" "teams" "[LSledgeRace$Team;") (by decide +kernel)) (fun _ h9 => h9) rfl dX2_passTick_11 ?_
  refine lv_astore_n (lv' := [(1, .ref ts), (0, .ref r)]) hx hb dX2_passTick_14 rfl hl (by decide) rfl (fun ls hl => ?_)
  refine lv_aload_n hx hb dX2_passTick_15 rfl (lv_at hl 0 rfl) ?_
  refine va_alen hx hb hK.1 hP 5 1 rfl rfl (v := nI 6) rfl dX2_passTick_16 ?_
  refine lv_istore_n (lv' := [(2, .int (nI 6)), (1, .ref ts), (0, .ref r)]) hx hb dX2_passTick_17 rfl hl (by decide) rfl (fun ls hl => ?_)
  refine lv_iconst (v := nI 0) hx hb dX2_passTick_18 (by decide) ?_
  refine lv_istore_n (lv' := [(3, .int (nI 0)), (2, .int (nI 6)), (1, .ref ts), (0, .ref r)]) hx hb dX2_passTick_19 rfl hl (by decide) rfl (fun ls hl => ?_)
  have loop20 : ∀ (fu : Nat) (i : Nat), (6 - i) < fu → (i ≤ 6) → ∀ (H : Heap) (locs : List Loc), va_P D vwCl ([(r, oR tr ts (ad 0 0) (ad 1 0) (nI n) (tick + 1)), (tr, oK KF k1 k2 k3), (k1, aI cI 12 S), (k2, aI cI 12 U), (k3, aI cI 12 V), (ts, aQ cT 6 (tq ad n))] ++ blks cI ad (eachT (cTickN S U V ns (KF 4) (tick + 1)) T (min i n)) (n + 2)) H → va_D A ([(r, oR tr ts (ad 0 0) (ad 1 0) (nI n) (tick + 1)), (tr, oK KF k1 k2 k3), (k1, aI cI 12 S), (k2, aI cI 12 U), (k3, aI cI 12 V), (ts, aQ cT 6 (tq ad n))] ++ blks cI ad (eachT (cTickN S U V ns (KF 4) (tick + 1)) T (min i n)) (n + 2)) → va_S A s.heap H locs → ∀ (ls : Array Slot), lv_has ls 5 [(3, .int (nI i)), (2, .int (nI 6)), (1, .ref ts), (0, .ref r)] → W p l e rmX2_passTick s m args below meth c H locs 0 0 Q (F0 m 20 ls []) := by
    intro fu
    induction fu with
    | zero => intro i hfu; exact absurd hfu (Nat.not_lt_zero _)
    | succ fu ih20 =>
      intro i hfu20 hi
      intro H locs hP hD hS ls hl
      refine lv_iload_n hx hb dX2_passTick_20 rfl (lv_at hl 0 rfl) ?_
      refine lv_iload_n hx hb dX2_passTick_21 rfl (lv_at hl 1 rfl) ?_
      refine sp_ge (by omega) (by omega) (tgt := 54) hx hb dX2_passTick_22 (by decide) (fun c22 => ?_) (fun c22 => ?_)
      · skip
        subst hQ
        have hP9 : va_P D vwCl ([(r, oR tr ts (ad 0 0) (ad 1 0) (nI n) (tick + 1)), (tr, oK KF k1 k2 k3), (k1, aI cI 12 S), (k2, aI cI 12 U), (k3, aI cI 12 V), (ts, aQ cT 6 (tq ad n))] ++ blks cI ad (eachT (cTickN S U V ns (KF 4) (tick + 1)) T n) (n + 2)) H := by have e : min i n = n := (by omega); rw [e] at hP; exact hP
        subst hAe
        exact W.vret hx hb hr (fun t ht hW => ⟨⟨(), rfl, trivial, by show va_P D vwCl _ t.heap; rw [ht]; exact hP9⟩, hS.F ht⟩) hS.2.2 dX2_passTick_54
      · skip
        refine lv_aload_n hx hb dX2_passTick_25 rfl (lv_at hl 2 rfl) ?_
        refine lv_iload_n hx hb dX2_passTick_26 rfl (lv_at hl 0 rfl) ?_
        refine sp_aald hx hb hK hP 5 rfl (by omega) (by decide) dX2_passTick_27 (fun cin => ?_) (fun cin => ?_)
        · skip
          refine lv_astore (lv' := [(4, .ref (ad (i + 2) 0)), (3, .int (nI i)), (2, .int (nI 6)), (1, .ref ts), (0, .ref r)]) hx hb dX2_passTick_28 hl (by decide) rfl (fun ls hl => ?_)
          refine lv_aload hx hb dX2_passTick_30 (lv_at hl 0 rfl) ?_
          refine lv_ifnull hx hb dX2_passTick_32 ?_
          refine lv_aload hx hb dX2_passTick_35 (lv_at hl 0 rfl) ?_
          refine lv_aload_n hx hb dX2_passTick_37 rfl (lv_at hl 4 rfl) ?_
          refine va_get (D := D) (ci := 2) (v := .int (tick + 1)) (C := RX2) (T := TX2) (N := 6) hx hb hts hiX2 hown hK.1 hP 0 rfl rfl 5 (by decide) (hts (.fieldLink RX2 36 "SledgeRace" "tick" "I") (by decide +kernel)) (fun _ h9 => h9) rfl dX2_passTick_38 ?_
          refine lv_aload_n hx hb dX2_passTick_41 rfl (lv_at hl 4 rfl) ?_
          refine va_get (D := D) (ci := 2) (v := .ref tr) (C := RX2) (T := TX2) (N := 6) hx hb hts hiX2 hown hK.1 hP 0 rfl rfl 0 (by decide) (hts (.fieldLink RX2 10 "SledgeRace" "track" "LSledgeRace$Track;") (by decide +kernel)) (fun _ h9 => h9) rfl dX2_passTick_42 ?_
          have hok9 : cOK ((eachT (cTickN S U V ns (KF 4) (tick + 1)) T (min i n)) (i + 2)) := by rw [eachT_get, if_neg (by omega)]; exact hT i cin
          refine sp_bV (rest := []) (As := [.int (tick + 1), .ref tr]) (k := i + 2) (N := cTickN S U V ns (KF 4) (tick + 1) ((eachT (cTickN S U V ns (KF 4) (tick + 1)) T (min i n)) (i + 2))) ⟨hx, hb, hml, hown, hts⟩ (mX0_passTick l D cI cT (ad (i + 2) 0) (ad (i + 2) 1) (ad (i + 2) 2) (ad (i + 2) 3) ((eachT (cTickN S U V ns (KF 4) (tick + 1)) T (min i n)) (i + 2)).1 ((eachT (cTickN S U V ns (KF 4) (tick + 1)) T (min i n)) (i + 2)).2.1 ((eachT (cTickN S U V ns (KF 4) (tick + 1)) T (min i n)) (i + 2)).2.2.1 ((eachT (cTickN S U V ns (KF 4) (tick + 1)) T (min i n)) (i + 2)).2.2.2 (tick + 1) (cN ((eachT (cTickN S U V ns (KF 4) (tick + 1)) T (min i n)) (i + 2))) hok9.1.2 hok9.1.1 (cH ((eachT (cTickN S U V ns (KF 4) (tick + 1)) T (min i n)) (i + 2))) hok9.2.2 hok9.2.1 tr k1 k2 k3 KF S U V ns hns hk) (cwV 2 hts gX2_passTick_X0_passTick rfl rfl rfl (by decide +kernel) ⟨Nat.le_of_ble_eq_true rfl, Nat.le_of_ble_eq_true rfl⟩) hK hP hD hS (show i + 2 < n + 2 by omega) (sp_pick (xb_P hP) [1, 2, 3, 4] rfl) (xb_nod hD (show i + 2 < n + 2 by omega) [1, 2, 3, 4] (by decide) (by simp) rfl) rfl hl.1 rfl (Nat.le_of_ble_eq_true rfl) dX2_passTick_45 ⟨Nat.le_of_ble_eq_true rfl, Nat.le_of_ble_eq_true rfl⟩ (fun H locs hP hD hS => ?_)
          have hP : va_P D vwCl ([(r, oR tr ts (ad 0 0) (ad 1 0) (nI n) (tick + 1)), (tr, oK KF k1 k2 k3), (k1, aI cI 12 S), (k2, aI cI 12 U), (k3, aI cI 12 V), (ts, aQ cT 6 (tq ad n))] ++ blks cI ad (setT (eachT (cTickN S U V ns (KF 4) (tick + 1)) T (min i n)) (i + 2) (cTickN S U V ns (KF 4) (tick + 1) ((eachT (cTickN S U V ns (KF 4) (tick + 1)) T (min i n)) (i + 2)))) (n + 2)) H := hP
          have hD : va_D A ([(r, oR tr ts (ad 0 0) (ad 1 0) (nI n) (tick + 1)), (tr, oK KF k1 k2 k3), (k1, aI cI 12 S), (k2, aI cI 12 U), (k3, aI cI 12 V), (ts, aQ cT 6 (tq ad n))] ++ blks cI ad (setT (eachT (cTickN S U V ns (KF 4) (tick + 1)) T (min i n)) (i + 2) (cTickN S U V ns (KF 4) (tick + 1) ((eachT (cTickN S U V ns (KF 4) (tick + 1)) T (min i n)) (i + 2)))) (n + 2)) := hD
          refine lv_iinc (v := nI (i + 1)) (lv' := [(3, .int (nI (i + 1))), (4, .ref (ad (i + 2) 0)), (2, .int (nI 6)), (1, .ref ts), (0, .ref r)]) hx hb dX2_passTick_48 hl (k := 1) rfl ((nI_1 i)) (by decide) rfl (fun ls hl => ?_)
          refine lv_goto (tgt := 20) hx hb dX2_passTick_51 (by decide) ?_
          exact ih20 (i + 1) (by omega) (by omega) _ _ (by rw [show min (i + 1) n = i + 1 by omega]; have e : min i n = i := (by omega); rw [e] at hP; exact hP) (by rw [show min (i + 1) n = i + 1 by omega]; have e : min i n = i := (by omega); rw [e] at hD; exact hD) hS ls (lv_sub hl [0, 2, 3, 4] rfl)
        · skip
          refine lv_astoreN (lv' := [(4, .null), (3, .int (nI i)), (2, .int (nI 6)), (1, .ref ts), (0, .ref r)]) hx hb dX2_passTick_28 hl (by decide) rfl (fun ls hl => ?_)
          refine lv_aloadN hx hb dX2_passTick_30 (lv_at hl 0 rfl) ?_
          refine lv_ifnullN (tgt := 48) hx hb dX2_passTick_32 (by decide) ?_
          refine lv_iinc (v := nI (i + 1)) (lv' := [(3, .int (nI (i + 1))), (4, .null), (2, .int (nI 6)), (1, .ref ts), (0, .ref r)]) hx hb dX2_passTick_48 hl (k := 1) rfl ((nI_1 i)) (by decide) rfl (fun ls hl => ?_)
          refine lv_goto (tgt := 20) hx hb dX2_passTick_51 (by decide) ?_
          exact ih20 (i + 1) (by omega) (by omega) _ _ (by rw [show min (i + 1) n = n by omega]; have e : min i n = n := (by omega); rw [e] at hP; exact hP) (by rw [show min (i + 1) n = n by omega]; have e : min i n = n := (by omega); rw [e] at hD; exact hD) hS ls (lv_sub hl [0, 2, 3, 4] rfl)
  exact loop20 _ 0 (Nat.lt_succ_self _) (Nat.zero_le _) _ _ (by rw [Nat.zero_min]; exact hP) (by rw [Nat.zero_min]; exact hD) hS ls (lv_sub hl [0, 1, 2, 3] rfl)

abbrev rmX2_restart : Room := { frames := 1, cells := 0, slots := 0, locals := 21 }
set_option maxHeartbeats 4000000 in
set_option maxRecDepth 100000 in
/-- back to the start -/
theorem mX2_restart (l : Launch) (D : va_G) (cI cT : ClassId) (r tr k1 k2 k3 ts : Nat) (ad : Nat → Nat → Nat) (n : Nat) (hn : n ≤ 6) (tick : Int32) (KF S U V : Nat → Int32) (T : Nat → TV) (hT : cTeams T n) : MetI l D cI cT yX2_restart wsX2_restart rmX2_restart [.ref r] ([(r, oR tr ts (ad 0 0) (ad 1 0) (nI n) tick), (tr, oK KF k1 k2 k3), (k1, aI cI 12 S), (k2, aI cI 12 U), (k3, aI cI 12 V), (ts, aQ cT 6 (tq ad n))] ++ blks cI ad T (n + 2)) [] ([(r, oR tr ts (ad 0 0) (ad 1 0) (nI n) 0), (tr, oK KF k1 k2 k3), (k1, aI cI 12 S), (k2, aI cI 12 U), (k3, aI cI 12 V), (ts, aQ cT 6 (tq ad n))] ++ blks cI ad (eachT cStartN T n) (n + 2)) (nI n) := by
  refine Met.ofW (cc := cX2_restart) (maxL := 5) (ret := (some .int)) (by decide) rfl ?_
  intro p e s m args below meth c s₁ B hml hv
  obtain ⟨hargs, hP, hR0, hK, hN⟩ := hv
  have hx := B.exec
  have hb := B.bytes
  have hr := B.returns
  have hts := atoms_spec (ws := wsX2_restart) B.pre
  have hown : s.vm.findClass RX2 = some m.cls := findClass_of_methodNamed B.named
  have hlocks := B.notSynchronized
  have hiX2 : ∀ w ∈ u_ws RX2 TX2 6, w ∈ wsX2_restart := by decide +kernel
  have he : entryFrame m args 5 = F0 m 0 ((lg_sl [.ref r] ++ List.replicate (5 - (lg_sl [.ref r]).length) Slot.unset).toArray) [] := by rw [hargs]; exact lg_entry_eq m _ _
  rw [he]
  change W p l e rmX2_restart s m args below meth c s.heap [] 0 0 (MQ below (va_Qi (S := Unit) (fun z _ => z = nI n) (fun _ t => va_P D vwCl ([(r, oR tr ts (ad 0 0) (ad 1 0) (nI n) 0), (tr, oK KF k1 k2 k3), (k1, aI cI 12 S), (k2, aI cI 12 U), (k3, aI cI 12 V), (ts, aQ cT 6 (tq ad n))] ++ blks cI ad (eachT cStartN T n) (n + 2)) t.heap) (fr (List.map Prod.fst ([(r, oR tr ts (ad 0 0) (ad 1 0) (nI n) tick), (tr, oK KF k1 k2 k3), (k1, aI cI 12 S), (k2, aI cI 12 U), (k3, aI cI 12 V), (ts, aQ cT 6 (tq ad n))] ++ blks cI ad T (n + 2))))) args s 0 0 (fr (List.map Prod.fst ([(r, oR tr ts (ad 0 0) (ad 1 0) (nI n) tick), (tr, oK KF k1 k2 k3), (k1, aI cI 12 S), (k2, aI cI 12 U), (k3, aI cI 12 V), (ts, aQ cT 6 (tq ad n))] ++ blks cI ad T (n + 2))))) _
  obtain ⟨Q, hQ⟩ : ∃ Q, Q = MQ below (va_Qi (S := Unit) (fun z _ => z = nI n) (fun _ t => va_P D vwCl ([(r, oR tr ts (ad 0 0) (ad 1 0) (nI n) 0), (tr, oK KF k1 k2 k3), (k1, aI cI 12 S), (k2, aI cI 12 U), (k3, aI cI 12 V), (ts, aQ cT 6 (tq ad n))] ++ blks cI ad (eachT cStartN T n) (n + 2)) t.heap) (fr (List.map Prod.fst ([(r, oR tr ts (ad 0 0) (ad 1 0) (nI n) tick), (tr, oK KF k1 k2 k3), (k1, aI cI 12 S), (k2, aI cI 12 U), (k3, aI cI 12 V), (ts, aQ cT 6 (tq ad n))] ++ blks cI ad T (n + 2))))) args s 0 0 (fr (List.map Prod.fst ([(r, oR tr ts (ad 0 0) (ad 1 0) (nI n) tick), (tr, oK KF k1 k2 k3), (k1, aI cI 12 S), (k2, aI cI 12 U), (k3, aI cI 12 V), (ts, aQ cT 6 (tq ad n))] ++ blks cI ad T (n + 2)))) := ⟨_, rfl⟩
  rw [← hQ]
  have hl := lv_entry [.ref r] (n := 5) (Nat.le_of_ble_eq_true rfl)
  generalize (lg_sl [.ref r] ++ List.replicate (5 - (lg_sl [.ref r]).length) Slot.unset).toArray = ls at hl ⊢
  have hl : lv_has ls 5 [(0, .ref r)] := hl
  obtain ⟨A, hAe⟩ : ∃ A, A = (fr (List.map Prod.fst ([(r, oR tr ts (ad 0 0) (ad 1 0) (nI n) tick), (tr, oK KF k1 k2 k3), (k1, aI cI 12 S), (k2, aI cI 12 U), (k3, aI cI 12 V), (ts, aQ cT 6 (tq ad n))] ++ blks cI ad T (n + 2)))) := ⟨_, rfl⟩
  have hA0 : ∀ q ∈ List.map Prod.fst ([(r, oR tr ts (ad 0 0) (ad 1 0) (nI n) tick), (tr, oK KF k1 k2 k3), (k1, aI cI 12 S), (k2, aI cI 12 U), (k3, aI cI 12 V), (ts, aQ cT 6 (tq ad n))] ++ blks cI ad T (n + 2)), A q := by rw [hAe]; exact fun q h => h
  have hD : va_D A ([(r, oR tr ts (ad 0 0) (ad 1 0) (nI n) tick), (tr, oK KF k1 k2 k3), (k1, aI cI 12 S), (k2, aI cI 12 U), (k3, aI cI 12 V), (ts, aQ cT 6 (tq ad n))] ++ blks cI ad T (n + 2)) := sp_D (List.nodup_append.mp (show ((([(r, oR tr ts (ad 0 0) (ad 1 0) (nI n) tick), (tr, oK KF k1 k2 k3), (k1, aI cI 12 S), (k2, aI cI 12 U), (k3, aI cI 12 V), (ts, aQ cT 6 (tq ad n))] ++ blks cI ad T (n + 2)) : va_W).map Prod.fst ++ ([] : va_W).map Prod.fst).Nodup by rw [← List.map_append]; exact hN)).1 hA0
  have hN : (List.map Prod.fst (([(r, oR tr ts (ad 0 0) (ad 1 0) (nI n) tick), (tr, oK KF k1 k2 k3), (k1, aI cI 12 S), (k2, aI cI 12 U), (k3, aI cI 12 V), (ts, aQ cT 6 (tq ad n))] ++ blks cI ad T (n + 2)) ++ []) : List Nat).Nodup := hN
  have hS : va_S A s.heap s.heap [] := va_S.rf
  obtain ⟨H, hH0⟩ : ∃ H, H = s.heap := ⟨_, rfl⟩
  obtain ⟨locs, hlo⟩ : ∃ L : List Loc, L = [] := ⟨_, rfl⟩
  have hP : va_P D vwCl ([(r, oR tr ts (ad 0 0) (ad 1 0) (nI n) tick), (tr, oK KF k1 k2 k3), (k1, aI cI 12 S), (k2, aI cI 12 U), (k3, aI cI 12 V), (ts, aQ cT 6 (tq ad n))] ++ blks cI ad T (n + 2)) H := by rw [hH0]; exact hP
  have hS : va_S A s.heap H locs := by rw [hH0, hlo]; exact hS
  rw [show W p l e rmX2_restart s m args below meth c s.heap [] 0 0 Q (F0 m 0 ls []) = W p l e rmX2_restart s m args below meth c H locs 0 0 Q (F0 m 0 ls []) by rw [hH0, hlo]]
  clear hH0 hlo
  refine lv_aload_n hx hb dX2_restart_0 rfl (lv_at hl 0 rfl) ?_
  refine lv_iconst (v := 0) hx hb dX2_restart_1 (by decide) ?_
  refine va_put (D := D) (ci := 2) (v := .int 0) (ty := .int) (C := RX2) (T := TX2) (N := 6) hx hb hts hiX2 tyX2 tyX2_ok nmX2 hown hK.1 hP hD hS 0 rfl rfl 5 (by decide) (hts (.fieldLink RX2 36 "SledgeRace" "tick" "I") (by decide +kernel)) (fun _ h9 => h9) rfl (by decide +kernel) rfl rfl (Nat.le_of_ble_eq_true rfl) dX2_restart_2 (fun H locs hP hD hS => ?_)
  have hP : va_P D vwCl ([(r, oR tr ts (ad 0 0) (ad 1 0) (nI n) 0), (tr, oK KF k1 k2 k3), (k1, aI cI 12 S), (k2, aI cI 12 U), (k3, aI cI 12 V), (ts, aQ cT 6 (tq ad n))] ++ blks cI ad T (n + 2)) H := hP
  have hD : va_D A ([(r, oR tr ts (ad 0 0) (ad 1 0) (nI n) 0), (tr, oK KF k1 k2 k3), (k1, aI cI 12 S), (k2, aI cI 12 U), (k3, aI cI 12 V), (ts, aQ cT 6 (tq ad n))] ++ blks cI ad T (n + 2)) := hD
  refine lv_aload_n hx hb dX2_restart_5 rfl (lv_at hl 0 rfl) ?_
  refine va_get (D := D) (ci := 2) (v := .ref ts) (C := RX2) (T := TX2) (N := 6) hx hb hts hiX2 hown hK.1 hP 0 rfl rfl 1 (by decide) (hts (.fieldLink RX2 18 "SledgeRace" "teams" "[LSledgeRace$Team;") (by decide +kernel)) (fun _ h9 => h9) rfl dX2_restart_6 ?_
  refine lv_astore_n (lv' := [(1, .ref ts), (0, .ref r)]) hx hb dX2_restart_9 rfl hl (by decide) rfl (fun ls hl => ?_)
  refine lv_aload_n hx hb dX2_restart_10 rfl (lv_at hl 0 rfl) ?_
  refine va_alen hx hb hK.1 hP 5 1 rfl rfl (v := nI 6) rfl dX2_restart_11 ?_
  refine lv_istore_n (lv' := [(2, .int (nI 6)), (1, .ref ts), (0, .ref r)]) hx hb dX2_restart_12 rfl hl (by decide) rfl (fun ls hl => ?_)
  refine lv_iconst (v := nI 0) hx hb dX2_restart_13 (by decide) ?_
  refine lv_istore_n (lv' := [(3, .int (nI 0)), (2, .int (nI 6)), (1, .ref ts), (0, .ref r)]) hx hb dX2_restart_14 rfl hl (by decide) rfl (fun ls hl => ?_)
  have loop15 : ∀ (fu : Nat) (i : Nat), (6 - i) < fu → (i ≤ 6) → ∀ (H : Heap) (locs : List Loc), va_P D vwCl ([(r, oR tr ts (ad 0 0) (ad 1 0) (nI n) 0), (tr, oK KF k1 k2 k3), (k1, aI cI 12 S), (k2, aI cI 12 U), (k3, aI cI 12 V), (ts, aQ cT 6 (tq ad n))] ++ blks cI ad (eachT (cStartN) T (min i n)) (n + 2)) H → va_D A ([(r, oR tr ts (ad 0 0) (ad 1 0) (nI n) 0), (tr, oK KF k1 k2 k3), (k1, aI cI 12 S), (k2, aI cI 12 U), (k3, aI cI 12 V), (ts, aQ cT 6 (tq ad n))] ++ blks cI ad (eachT (cStartN) T (min i n)) (n + 2)) → va_S A s.heap H locs → ∀ (ls : Array Slot), lv_has ls 5 [(3, .int (nI i)), (2, .int (nI 6)), (1, .ref ts), (0, .ref r)] → W p l e rmX2_restart s m args below meth c H locs 0 0 Q (F0 m 15 ls []) := by
    intro fu
    induction fu with
    | zero => intro i hfu; exact absurd hfu (Nat.not_lt_zero _)
    | succ fu ih15 =>
      intro i hfu15 hi
      intro H locs hP hD hS ls hl
      refine lv_iload_n hx hb dX2_restart_15 rfl (lv_at hl 0 rfl) ?_
      refine lv_iload_n hx hb dX2_restart_16 rfl (lv_at hl 1 rfl) ?_
      refine sp_ge (by omega) (by omega) (tgt := 41) hx hb dX2_restart_17 (by decide) (fun c17 => ?_) (fun c17 => ?_)
      · skip
        refine lv_aload_n hx hb dX2_restart_41 rfl (lv_at hl 3 rfl) ?_
        refine va_get (D := D) (ci := 2) (v := .int (nI n)) (C := RX2) (T := TX2) (N := 6) hx hb hts hiX2 hown hK.1 hP 0 rfl rfl 4 (by decide) (hts (.fieldLink RX2 32 "SledgeRace" "teamCount" "I") (by decide +kernel)) (fun _ h9 => h9) rfl dX2_restart_42 ?_
        subst hQ
        have hP9 : va_P D vwCl ([(r, oR tr ts (ad 0 0) (ad 1 0) (nI n) 0), (tr, oK KF k1 k2 k3), (k1, aI cI 12 S), (k2, aI cI 12 U), (k3, aI cI 12 V), (ts, aQ cT 6 (tq ad n))] ++ blks cI ad (eachT cStartN T n) (n + 2)) H := by have e : min i n = n := (by omega); rw [e] at hP; exact hP
        subst hAe
        exact W.iret hx hb hr (fun t ht hW => ⟨⟨_, (), rfl, rfl, by show va_P D vwCl _ t.heap; rw [ht]; exact hP9⟩, hS.F ht⟩) hS.2.2 dX2_restart_45
      · skip
        refine lv_aload_n hx hb dX2_restart_20 rfl (lv_at hl 2 rfl) ?_
        refine lv_iload_n hx hb dX2_restart_21 rfl (lv_at hl 0 rfl) ?_
        refine sp_aald hx hb hK hP 5 rfl (by omega) (by decide) dX2_restart_22 (fun cin => ?_) (fun cin => ?_)
        · skip
          refine lv_astore (lv' := [(4, .ref (ad (i + 2) 0)), (3, .int (nI i)), (2, .int (nI 6)), (1, .ref ts), (0, .ref r)]) hx hb dX2_restart_23 hl (by decide) rfl (fun ls hl => ?_)
          refine lv_aload hx hb dX2_restart_25 (lv_at hl 0 rfl) ?_
          refine lv_ifnull hx hb dX2_restart_27 ?_
          refine lv_aload hx hb dX2_restart_30 (lv_at hl 0 rfl) ?_
          have hok9 : cOK ((eachT (cStartN) T (min i n)) (i + 2)) := by rw [eachT_get, if_neg (by omega)]; exact hT i cin
          refine sp_bV (rest := []) (As := []) (k := i + 2) (N := cStartN ((eachT (cStartN) T (min i n)) (i + 2))) ⟨hx, hb, hml, hown, hts⟩ (mX0_goToStart l D cI cT (ad (i + 2) 0) (ad (i + 2) 1) (ad (i + 2) 2) (ad (i + 2) 3) ((eachT (cStartN) T (min i n)) (i + 2)).1 ((eachT (cStartN) T (min i n)) (i + 2)).2.1 ((eachT (cStartN) T (min i n)) (i + 2)).2.2.1 ((eachT (cStartN) T (min i n)) (i + 2)).2.2.2 (cN ((eachT (cStartN) T (min i n)) (i + 2))) hok9.1.2 hok9.1.1) (cwV 0 hts gX2_restart_X0_goToStart rfl rfl rfl (by decide +kernel) ⟨Nat.le_of_ble_eq_true rfl, Nat.le_of_ble_eq_true rfl⟩) hK hP hD hS (show i + 2 < n + 2 by omega) (fun k q h => by simp at h) (xb_nod (rc := []) hD (show i + 2 < n + 2 by omega) [] (by decide) (by simp) rfl) rfl hl.1 rfl (Nat.le_of_ble_eq_true rfl) dX2_restart_32 ⟨Nat.le_of_ble_eq_true rfl, Nat.le_of_ble_eq_true rfl⟩ (fun H locs hP hD hS => ?_)
          have hP : va_P D vwCl ([(r, oR tr ts (ad 0 0) (ad 1 0) (nI n) 0), (tr, oK KF k1 k2 k3), (k1, aI cI 12 S), (k2, aI cI 12 U), (k3, aI cI 12 V), (ts, aQ cT 6 (tq ad n))] ++ blks cI ad (setT (eachT (cStartN) T (min i n)) (i + 2) (cStartN ((eachT (cStartN) T (min i n)) (i + 2)))) (n + 2)) H := hP
          have hD : va_D A ([(r, oR tr ts (ad 0 0) (ad 1 0) (nI n) 0), (tr, oK KF k1 k2 k3), (k1, aI cI 12 S), (k2, aI cI 12 U), (k3, aI cI 12 V), (ts, aQ cT 6 (tq ad n))] ++ blks cI ad (setT (eachT (cStartN) T (min i n)) (i + 2) (cStartN ((eachT (cStartN) T (min i n)) (i + 2)))) (n + 2)) := hD
          refine lv_iinc (v := nI (i + 1)) (lv' := [(3, .int (nI (i + 1))), (4, .ref (ad (i + 2) 0)), (2, .int (nI 6)), (1, .ref ts), (0, .ref r)]) hx hb dX2_restart_35 hl (k := 1) rfl ((nI_1 i)) (by decide) rfl (fun ls hl => ?_)
          refine lv_goto (tgt := 15) hx hb dX2_restart_38 (by decide) ?_
          exact ih15 (i + 1) (by omega) (by omega) _ _ (by rw [show min (i + 1) n = i + 1 by omega]; have e : min i n = i := (by omega); rw [e] at hP; exact hP) (by rw [show min (i + 1) n = i + 1 by omega]; have e : min i n = i := (by omega); rw [e] at hD; exact hD) hS ls (lv_sub hl [0, 2, 3, 4] rfl)
        · skip
          refine lv_astoreN (lv' := [(4, .null), (3, .int (nI i)), (2, .int (nI 6)), (1, .ref ts), (0, .ref r)]) hx hb dX2_restart_23 hl (by decide) rfl (fun ls hl => ?_)
          refine lv_aloadN hx hb dX2_restart_25 (lv_at hl 0 rfl) ?_
          refine lv_ifnullN (tgt := 35) hx hb dX2_restart_27 (by decide) ?_
          refine lv_iinc (v := nI (i + 1)) (lv' := [(3, .int (nI (i + 1))), (4, .null), (2, .int (nI 6)), (1, .ref ts), (0, .ref r)]) hx hb dX2_restart_35 hl (k := 1) rfl ((nI_1 i)) (by decide) rfl (fun ls hl => ?_)
          refine lv_goto (tgt := 15) hx hb dX2_restart_38 (by decide) ?_
          exact ih15 (i + 1) (by omega) (by omega) _ _ (by rw [show min (i + 1) n = n by omega]; have e : min i n = n := (by omega); rw [e] at hP; exact hP) (by rw [show min (i + 1) n = n by omega]; have e : min i n = n := (by omega); rw [e] at hD; exact hD) hS ls (lv_sub hl [0, 2, 3, 4] rfl)
  exact loop15 _ 0 (Nat.lt_succ_self _) (Nat.zero_le _) _ _ (by rw [Nat.zero_min]; exact hP) (by rw [Nat.zero_min]; exact hD) hS ls (lv_sub hl [0, 1, 2, 3] rfl)

abbrev rmX2_lookAhead : Room := { frames := 4, cells := 0, slots := 0, locals := 94 }
set_option maxHeartbeats 4000000 in
set_option maxRecDepth 100000 in
/-- a copy races ahead -/
theorem mX2_lookAhead (l : Launch) (D : va_G) (cI cT : ClassId) (r tr k1 k2 k3 ts : Nat) (ad : Nat → Nat → Nat) (n : Nat) (hn : n ≤ 6) (tick : Int32) (KF S U V : Nat → Int32) (T : Nat → TV) (ns : Nat) (hns : ns ≤ 12) (hk : KF 3 = nI ns) (c9 b k : Nat) (hc9 : c9 < 2) (hb9 : 2 ≤ b) (hb8 : b < n + 2) (hk8 : k ≤ 1000) (hokb : cOK (T b)) (e9 : Int32) : MetV l D cI cT yX2_lookAhead wsX2_lookAhead rmX2_lookAhead [.ref r, .ref (ad c9 0), .ref (ad b 0), .int e9, .int (nI k)] ([(r, oR tr ts (ad 0 0) (ad 1 0) (nI n) tick), (tr, oK KF k1 k2 k3), (k1, aI cI 12 S), (k2, aI cI 12 U), (k3, aI cI 12 V), (ts, aQ cT 6 (tq ad n))] ++ blks cI ad T (n + 2)) [] ([(r, oR tr ts (ad 0 0) (ad 1 0) (nI n) tick), (tr, oK KF k1 k2 k3), (k1, aI cI 12 S), (k2, aI cI 12 U), (k3, aI cI 12 V), (ts, aQ cT 6 (tq ad n))] ++ blks cI ad (setT T c9 (cLook S U V ns (KF 4) tick e9 (T b) k)) (n + 2)) := by
  refine Met.ofW (cc := cX2_lookAhead) (maxL := 6) (ret := none) (by decide) rfl ?_
  intro p e s m args below meth c s₁ B hml hv
  obtain ⟨hargs, hP, hR0, hK, hN⟩ := hv
  have hx := B.exec
  have hb := B.bytes
  have hr := B.returns
  have hts := atoms_spec (ws := wsX2_lookAhead) B.pre
  have hown : s.vm.findClass RX2 = some m.cls := findClass_of_methodNamed B.named
  have hlocks := B.notSynchronized
  have hiX0 : ∀ w ∈ u_ws RX0 TX0 20, w ∈ wsX2_lookAhead := by decide +kernel
  have hiX2 : ∀ w ∈ u_ws RX2 TX2 6, w ∈ wsX2_lookAhead := by decide +kernel
  have he : entryFrame m args 6 = F0 m 0 ((lg_sl [.ref r, .ref (ad c9 0), .ref (ad b 0), .int e9, .int (nI k)] ++ List.replicate (6 - (lg_sl [.ref r, .ref (ad c9 0), .ref (ad b 0), .int e9, .int (nI k)]).length) Slot.unset).toArray) [] := by rw [hargs]; exact lg_entry_eq m _ _
  rw [he]
  change W p l e rmX2_lookAhead s m args below meth c s.heap [] 0 0 (MQ below (va_Qv (S := Unit) (fun _ => True) (fun _ t => va_P D vwCl ([(r, oR tr ts (ad 0 0) (ad 1 0) (nI n) tick), (tr, oK KF k1 k2 k3), (k1, aI cI 12 S), (k2, aI cI 12 U), (k3, aI cI 12 V), (ts, aQ cT 6 (tq ad n))] ++ blks cI ad (setT T c9 (cLook S U V ns (KF 4) tick e9 (T b) k)) (n + 2)) t.heap) (fr (List.map Prod.fst ([(r, oR tr ts (ad 0 0) (ad 1 0) (nI n) tick), (tr, oK KF k1 k2 k3), (k1, aI cI 12 S), (k2, aI cI 12 U), (k3, aI cI 12 V), (ts, aQ cT 6 (tq ad n))] ++ blks cI ad T (n + 2))))) args s 0 0 (fr (List.map Prod.fst ([(r, oR tr ts (ad 0 0) (ad 1 0) (nI n) tick), (tr, oK KF k1 k2 k3), (k1, aI cI 12 S), (k2, aI cI 12 U), (k3, aI cI 12 V), (ts, aQ cT 6 (tq ad n))] ++ blks cI ad T (n + 2))))) _
  obtain ⟨Q, hQ⟩ : ∃ Q, Q = MQ below (va_Qv (S := Unit) (fun _ => True) (fun _ t => va_P D vwCl ([(r, oR tr ts (ad 0 0) (ad 1 0) (nI n) tick), (tr, oK KF k1 k2 k3), (k1, aI cI 12 S), (k2, aI cI 12 U), (k3, aI cI 12 V), (ts, aQ cT 6 (tq ad n))] ++ blks cI ad (setT T c9 (cLook S U V ns (KF 4) tick e9 (T b) k)) (n + 2)) t.heap) (fr (List.map Prod.fst ([(r, oR tr ts (ad 0 0) (ad 1 0) (nI n) tick), (tr, oK KF k1 k2 k3), (k1, aI cI 12 S), (k2, aI cI 12 U), (k3, aI cI 12 V), (ts, aQ cT 6 (tq ad n))] ++ blks cI ad T (n + 2))))) args s 0 0 (fr (List.map Prod.fst ([(r, oR tr ts (ad 0 0) (ad 1 0) (nI n) tick), (tr, oK KF k1 k2 k3), (k1, aI cI 12 S), (k2, aI cI 12 U), (k3, aI cI 12 V), (ts, aQ cT 6 (tq ad n))] ++ blks cI ad T (n + 2)))) := ⟨_, rfl⟩
  rw [← hQ]
  have hl := lv_entry [.ref r, .ref (ad c9 0), .ref (ad b 0), .int e9, .int (nI k)] (n := 6) (Nat.le_of_ble_eq_true rfl)
  generalize (lg_sl [.ref r, .ref (ad c9 0), .ref (ad b 0), .int e9, .int (nI k)] ++ List.replicate (6 - (lg_sl [.ref r, .ref (ad c9 0), .ref (ad b 0), .int e9, .int (nI k)]).length) Slot.unset).toArray = ls at hl ⊢
  have hl : lv_has ls 6 [(0, .ref r), (1, .ref (ad c9 0)), (2, .ref (ad b 0)), (3, .int e9), (4, .int (nI k))] := hl
  obtain ⟨A, hAe⟩ : ∃ A, A = (fr (List.map Prod.fst ([(r, oR tr ts (ad 0 0) (ad 1 0) (nI n) tick), (tr, oK KF k1 k2 k3), (k1, aI cI 12 S), (k2, aI cI 12 U), (k3, aI cI 12 V), (ts, aQ cT 6 (tq ad n))] ++ blks cI ad T (n + 2)))) := ⟨_, rfl⟩
  have hA0 : ∀ q ∈ List.map Prod.fst ([(r, oR tr ts (ad 0 0) (ad 1 0) (nI n) tick), (tr, oK KF k1 k2 k3), (k1, aI cI 12 S), (k2, aI cI 12 U), (k3, aI cI 12 V), (ts, aQ cT 6 (tq ad n))] ++ blks cI ad T (n + 2)), A q := by rw [hAe]; exact fun q h => h
  have hD : va_D A ([(r, oR tr ts (ad 0 0) (ad 1 0) (nI n) tick), (tr, oK KF k1 k2 k3), (k1, aI cI 12 S), (k2, aI cI 12 U), (k3, aI cI 12 V), (ts, aQ cT 6 (tq ad n))] ++ blks cI ad T (n + 2)) := sp_D (List.nodup_append.mp (show ((([(r, oR tr ts (ad 0 0) (ad 1 0) (nI n) tick), (tr, oK KF k1 k2 k3), (k1, aI cI 12 S), (k2, aI cI 12 U), (k3, aI cI 12 V), (ts, aQ cT 6 (tq ad n))] ++ blks cI ad T (n + 2)) : va_W).map Prod.fst ++ ([] : va_W).map Prod.fst).Nodup by rw [← List.map_append]; exact hN)).1 hA0
  have hN : (List.map Prod.fst (([(r, oR tr ts (ad 0 0) (ad 1 0) (nI n) tick), (tr, oK KF k1 k2 k3), (k1, aI cI 12 S), (k2, aI cI 12 U), (k3, aI cI 12 V), (ts, aQ cT 6 (tq ad n))] ++ blks cI ad T (n + 2)) ++ []) : List Nat).Nodup := hN
  have hS : va_S A s.heap s.heap [] := va_S.rf
  obtain ⟨H, hH0⟩ : ∃ H, H = s.heap := ⟨_, rfl⟩
  obtain ⟨locs, hlo⟩ : ∃ L : List Loc, L = [] := ⟨_, rfl⟩
  have hP : va_P D vwCl ([(r, oR tr ts (ad 0 0) (ad 1 0) (nI n) tick), (tr, oK KF k1 k2 k3), (k1, aI cI 12 S), (k2, aI cI 12 U), (k3, aI cI 12 V), (ts, aQ cT 6 (tq ad n))] ++ blks cI ad T (n + 2)) H := by rw [hH0]; exact hP
  have hS : va_S A s.heap H locs := by rw [hH0, hlo]; exact hS
  rw [show W p l e rmX2_lookAhead s m args below meth c s.heap [] 0 0 Q (F0 m 0 ls []) = W p l e rmX2_lookAhead s m args below meth c H locs 0 0 Q (F0 m 0 ls []) by rw [hH0, hlo]]
  clear hH0 hlo
  refine lv_aload_n hx hb dX2_lookAhead_0 rfl (lv_at hl 1 rfl) ?_
  refine lv_aload_n hx hb dX2_lookAhead_1 rfl (lv_at hl 2 rfl) ?_
  refine sp_bV (rest := []) (As := [.ref (ad b 0)]) (k := c9) (N := T b) ⟨hx, hb, hml, hown, hts⟩ (mX0_copyFrom l D cI cT (ad (c9) 0) (ad (c9) 1) (ad (c9) 2) (ad (c9) 3) (ad (b) 0) (ad (b) 1) (ad (b) 2) (ad (b) 3) (T c9).1 (T c9).2.1 (T c9).2.2.1 (T c9).2.2.2 (T b).1 (T b).2.1 (T b).2.2.1 (T b).2.2.2) (cwV 1 hts gX2_lookAhead_X0_copyFrom rfl rfl rfl (by decide +kernel) ⟨Nat.le_of_ble_eq_true rfl, Nat.le_of_ble_eq_true rfl⟩) hK hP hD hS (show c9 < n + 2 by omega) (blk_P hP (show b < n + 2 by omega)) (bb_nod hD (show c9 < n + 2 by omega) (show b < n + 2 by omega) (by omega)) rfl hl.1 rfl (Nat.le_of_ble_eq_true rfl) dX2_lookAhead_2 ⟨Nat.le_of_ble_eq_true rfl, Nat.le_of_ble_eq_true rfl⟩ (fun H locs hP hD hS => ?_)
  have hP : va_P D vwCl ([(r, oR tr ts (ad 0 0) (ad 1 0) (nI n) tick), (tr, oK KF k1 k2 k3), (k1, aI cI 12 S), (k2, aI cI 12 U), (k3, aI cI 12 V), (ts, aQ cT 6 (tq ad n))] ++ blks cI ad (setT T c9 (T b)) (n + 2)) H := hP
  have hD : va_D A ([(r, oR tr ts (ad 0 0) (ad 1 0) (nI n) tick), (tr, oK KF k1 k2 k3), (k1, aI cI 12 S), (k2, aI cI 12 U), (k3, aI cI 12 V), (ts, aQ cT 6 (tq ad n))] ++ blks cI ad (setT T c9 (T b)) (n + 2)) := hD
  refine lv_aload_n hx hb dX2_lookAhead_5 rfl (lv_at hl 1 rfl) ?_
  refine lv_iload_n hx hb dX2_lookAhead_6 rfl (lv_at hl 3 rfl) ?_
  refine va_putN (D := D) (ci := 0) (v := .int e9) (ty := .int) (C := RX0) (T := TX0) (N := 20) hx hb hts hiX0 tyX0 tyX0_ok nmX0 hown hK.1 hP hD hS (([(r, oR tr ts (ad 0 0) (ad 1 0) (nI n) tick), (tr, oK KF k1 k2 k3), (k1, aI cI 12 S), (k2, aI cI 12 U), (k3, aI cI 12 V), (ts, aQ cT 6 (tq ad n))] : va_W).length + 4 * (c9) + 0) ((xb_get [(r, oR tr ts (ad 0 0) (ad 1 0) (nI n) tick), (tr, oK KF k1 k2 k3), (k1, aI cI 12 S), (k2, aI cI 12 U), (k3, aI cI 12 V), (ts, aQ cT 6 (tq ad n))] cI ad (setT T c9 (T b)) (by decide) (show c9 < n + 2 by omega)).trans rfl) rfl 8 (by decide) (hK.n (w := .fieldLinkNest RX2 102 "SledgeRace$Team" "effort" "I" "SledgeRace") (by decide +kernel)) (fun _ h9 => h9) rfl (by decide +kernel) rfl rfl (Nat.le_of_ble_eq_true rfl) dX2_lookAhead_7 (fun H locs hP hD hS => ?_)
  have hP : va_P D vwCl ([(r, oR tr ts (ad 0 0) (ad 1 0) (nI n) tick), (tr, oK KF k1 k2 k3), (k1, aI cI 12 S), (k2, aI cI 12 U), (k3, aI cI 12 V), (ts, aQ cT 6 (tq ad n))] ++ blks cI ad (setT (setT T c9 (T b)) c9 (upd ((setT T c9 (T b)) c9).1 8 e9, ((setT T c9 (T b)) c9).2)) (n + 2)) H := by rw [← blk_set0 [(r, oR tr ts (ad 0 0) (ad 1 0) (nI n) tick), (tr, oK KF k1 k2 k3), (k1, aI cI 12 S), (k2, aI cI 12 U), (k3, aI cI 12 V), (ts, aQ cT 6 (tq ad n))] cI ad (setT T c9 (T b)) (upd ((setT T c9 (T b)) c9).1 8 e9) (show c9 < n + 2 by omega)]; exact hP
  have hD : va_D A ([(r, oR tr ts (ad 0 0) (ad 1 0) (nI n) tick), (tr, oK KF k1 k2 k3), (k1, aI cI 12 S), (k2, aI cI 12 U), (k3, aI cI 12 V), (ts, aQ cT 6 (tq ad n))] ++ blks cI ad (setT (setT T c9 (T b)) c9 (upd ((setT T c9 (T b)) c9).1 8 e9, ((setT T c9 (T b)) c9).2)) (n + 2)) := by rw [← blk_set0 [(r, oR tr ts (ad 0 0) (ad 1 0) (nI n) tick), (tr, oK KF k1 k2 k3), (k1, aI cI 12 S), (k2, aI cI 12 U), (k3, aI cI 12 V), (ts, aQ cT 6 (tq ad n))] cI ad (setT T c9 (T b)) (upd ((setT T c9 (T b)) c9).1 8 e9) (show c9 < n + 2 by omega)]; exact hD
  have eT : setT (setT T c9 (T b)) c9 (upd ((setT T c9 (T b)) c9).1 8 e9, ((setT T c9 (T b)) c9).2) = setT T c9 (cLook S U V ns (KF 4) tick e9 (T b) 0) := by rw [setT_setT, setT_i]; rfl
  have hP : va_P D vwCl ([(r, oR tr ts (ad 0 0) (ad 1 0) (nI n) tick), (tr, oK KF k1 k2 k3), (k1, aI cI 12 S), (k2, aI cI 12 U), (k3, aI cI 12 V), (ts, aQ cT 6 (tq ad n))] ++ blks cI ad (setT T c9 (cLook S U V ns (KF 4) tick e9 (T b) 0)) (n + 2)) H := by rw [← eT]; exact hP
  have hD : va_D A ([(r, oR tr ts (ad 0 0) (ad 1 0) (nI n) tick), (tr, oK KF k1 k2 k3), (k1, aI cI 12 S), (k2, aI cI 12 U), (k3, aI cI 12 V), (ts, aQ cT 6 (tq ad n))] ++ blks cI ad (setT T c9 (cLook S U V ns (KF 4) tick e9 (T b) 0)) (n + 2)) := by rw [← eT]; exact hD
  refine lv_iconst (v := nI 1) hx hb dX2_lookAhead_10 (by decide) ?_
  refine lv_istore (lv' := [(5, .int (nI 1)), (0, .ref r), (1, .ref (ad c9 0)), (2, .ref (ad b 0)), (3, .int e9), (4, .int (nI k))]) hx hb dX2_lookAhead_11 hl (by decide) rfl (fun ls hl => ?_)
  have loop13 : ∀ (fu : Nat) (j : Nat), (k - j) < fu → (j ≤ k) → ∀ (H : Heap) (locs : List Loc), va_P D vwCl ([(r, oR tr ts (ad 0 0) (ad 1 0) (nI n) tick), (tr, oK KF k1 k2 k3), (k1, aI cI 12 S), (k2, aI cI 12 U), (k3, aI cI 12 V), (ts, aQ cT 6 (tq ad n))] ++ blks cI ad (setT T c9 (cLook S U V ns (KF 4) tick e9 (T b) j)) (n + 2)) H → va_D A ([(r, oR tr ts (ad 0 0) (ad 1 0) (nI n) tick), (tr, oK KF k1 k2 k3), (k1, aI cI 12 S), (k2, aI cI 12 U), (k3, aI cI 12 V), (ts, aQ cT 6 (tq ad n))] ++ blks cI ad (setT T c9 (cLook S U V ns (KF 4) tick e9 (T b) j)) (n + 2)) → va_S A s.heap H locs → ∀ (ls : Array Slot), lv_has ls 6 [(5, .int (nI (j + 1))), (0, .ref r), (1, .ref (ad c9 0)), (4, .int (nI k))] → W p l e rmX2_lookAhead s m args below meth c H locs 0 0 Q (F0 m 13 ls []) := by
    intro fu
    induction fu with
    | zero => intro j hfu; exact absurd hfu (Nat.not_lt_zero _)
    | succ fu ih13 =>
      intro j hfu13 hj
      intro H locs hP hD hS ls hl
      refine lv_iload hx hb dX2_lookAhead_13 (lv_at hl 0 rfl) ?_
      refine lv_iload hx hb dX2_lookAhead_15 (lv_at hl 3 rfl) ?_
      refine sp_gt (by omega) (by omega) (tgt := 41) hx hb dX2_lookAhead_17 (by decide) (fun c17 => ?_) (fun c17 => ?_)
      · skip
        subst hQ
        have hP9 : va_P D vwCl ([(r, oR tr ts (ad 0 0) (ad 1 0) (nI n) tick), (tr, oK KF k1 k2 k3), (k1, aI cI 12 S), (k2, aI cI 12 U), (k3, aI cI 12 V), (ts, aQ cT 6 (tq ad n))] ++ blks cI ad (setT T c9 (cLook S U V ns (KF 4) tick e9 (T b) k)) (n + 2)) H := by have e : j = k := (by omega); rw [e] at hP; exact hP
        subst hAe
        exact W.vret hx hb hr (fun t ht hW => ⟨⟨(), rfl, trivial, by show va_P D vwCl _ t.heap; rw [ht]; exact hP9⟩, hS.F ht⟩) hS.2.2 dX2_lookAhead_41
      · skip
        refine lv_aload_n hx hb dX2_lookAhead_20 rfl (lv_at hl 2 rfl) ?_
        refine lv_aload_n hx hb dX2_lookAhead_21 rfl (lv_at hl 1 rfl) ?_
        refine va_get (D := D) (ci := 2) (v := .int tick) (C := RX2) (T := TX2) (N := 6) hx hb hts hiX2 hown hK.1 hP 0 rfl rfl 5 (by decide) (hts (.fieldLink RX2 36 "SledgeRace" "tick" "I") (by decide +kernel)) (fun _ h9 => h9) rfl dX2_lookAhead_22 ?_
        refine lv_iload hx hb dX2_lookAhead_25 (lv_at hl 0 rfl) ?_
        refine lv_iadd hx hb dX2_lookAhead_27 ?_
        refine lv_aload_n hx hb dX2_lookAhead_28 rfl (lv_at hl 1 rfl) ?_
        refine va_get (D := D) (ci := 2) (v := .ref tr) (C := RX2) (T := TX2) (N := 6) hx hb hts hiX2 hown hK.1 hP 0 rfl rfl 0 (by decide) (hts (.fieldLink RX2 10 "SledgeRace" "track" "LSledgeRace$Track;") (by decide +kernel)) (fun _ h9 => h9) rfl dX2_lookAhead_29 ?_
        have hok9 : cOK ((setT T c9 (cLook S U V ns (KF 4) tick e9 (T b) j)) c9) := by rw [setT_i]; exact cLook_ok hokb j
        refine sp_bV (rest := []) (As := [.int (tick + (nI (j + 1))), .ref tr]) (k := c9) (N := cTickN S U V ns (KF 4) (tick + (nI (j + 1))) ((setT T c9 (cLook S U V ns (KF 4) tick e9 (T b) j)) c9)) ⟨hx, hb, hml, hown, hts⟩ (mX0_passTick l D cI cT (ad (c9) 0) (ad (c9) 1) (ad (c9) 2) (ad (c9) 3) ((setT T c9 (cLook S U V ns (KF 4) tick e9 (T b) j)) c9).1 ((setT T c9 (cLook S U V ns (KF 4) tick e9 (T b) j)) c9).2.1 ((setT T c9 (cLook S U V ns (KF 4) tick e9 (T b) j)) c9).2.2.1 ((setT T c9 (cLook S U V ns (KF 4) tick e9 (T b) j)) c9).2.2.2 (tick + (nI (j + 1))) (cN ((setT T c9 (cLook S U V ns (KF 4) tick e9 (T b) j)) c9)) hok9.1.2 hok9.1.1 (cH ((setT T c9 (cLook S U V ns (KF 4) tick e9 (T b) j)) c9)) hok9.2.2 hok9.2.1 tr k1 k2 k3 KF S U V ns hns hk) (cwV 2 hts gX2_lookAhead_X0_passTick rfl rfl rfl (by decide +kernel) ⟨Nat.le_of_ble_eq_true rfl, Nat.le_of_ble_eq_true rfl⟩) hK hP hD hS (show c9 < n + 2 by omega) (sp_pick (xb_P hP) [1, 2, 3, 4] rfl) (xb_nod hD (show c9 < n + 2 by omega) [1, 2, 3, 4] (by decide) (by simp) rfl) rfl hl.1 rfl (Nat.le_of_ble_eq_true rfl) dX2_lookAhead_32 ⟨Nat.le_of_ble_eq_true rfl, Nat.le_of_ble_eq_true rfl⟩ (fun H locs hP hD hS => ?_)
        have hP : va_P D vwCl ([(r, oR tr ts (ad 0 0) (ad 1 0) (nI n) tick), (tr, oK KF k1 k2 k3), (k1, aI cI 12 S), (k2, aI cI 12 U), (k3, aI cI 12 V), (ts, aQ cT 6 (tq ad n))] ++ blks cI ad (setT (setT T c9 (cLook S U V ns (KF 4) tick e9 (T b) j)) c9 (cTickN S U V ns (KF 4) (tick + (nI (j + 1))) ((setT T c9 (cLook S U V ns (KF 4) tick e9 (T b) j)) c9))) (n + 2)) H := hP
        have hD : va_D A ([(r, oR tr ts (ad 0 0) (ad 1 0) (nI n) tick), (tr, oK KF k1 k2 k3), (k1, aI cI 12 S), (k2, aI cI 12 U), (k3, aI cI 12 V), (ts, aQ cT 6 (tq ad n))] ++ blks cI ad (setT (setT T c9 (cLook S U V ns (KF 4) tick e9 (T b) j)) c9 (cTickN S U V ns (KF 4) (tick + (nI (j + 1))) ((setT T c9 (cLook S U V ns (KF 4) tick e9 (T b) j)) c9))) (n + 2)) := hD
        have eT : setT (setT T c9 (cLook S U V ns (KF 4) tick e9 (T b) j)) c9 (cTickN S U V ns (KF 4) (tick + (nI (j + 1))) ((setT T c9 (cLook S U V ns (KF 4) tick e9 (T b) j)) c9)) = setT T c9 (cLook S U V ns (KF 4) tick e9 (T b) (j + 1)) := by rw [setT_setT, setT_i]; rfl
        have hP : va_P D vwCl ([(r, oR tr ts (ad 0 0) (ad 1 0) (nI n) tick), (tr, oK KF k1 k2 k3), (k1, aI cI 12 S), (k2, aI cI 12 U), (k3, aI cI 12 V), (ts, aQ cT 6 (tq ad n))] ++ blks cI ad (setT T c9 (cLook S U V ns (KF 4) tick e9 (T b) (j + 1))) (n + 2)) H := by rw [← eT]; exact hP
        have hD : va_D A ([(r, oR tr ts (ad 0 0) (ad 1 0) (nI n) tick), (tr, oK KF k1 k2 k3), (k1, aI cI 12 S), (k2, aI cI 12 U), (k3, aI cI 12 V), (ts, aQ cT 6 (tq ad n))] ++ blks cI ad (setT T c9 (cLook S U V ns (KF 4) tick e9 (T b) (j + 1))) (n + 2)) := by rw [← eT]; exact hD
        refine lv_iinc (v := nI (j + 1 + 1)) (lv' := [(5, .int (nI (j + 1 + 1))), (0, .ref r), (1, .ref (ad c9 0)), (4, .int (nI k))]) hx hb dX2_lookAhead_35 hl (k := 0) rfl ((nI_1 (j + 1))) (by decide) rfl (fun ls hl => ?_)
        refine lv_goto (tgt := 13) hx hb dX2_lookAhead_38 (by decide) ?_
        exact ih13 (j + 1) (by omega) (by omega) _ _ hP hD hS ls (lv_sub hl [0, 1, 2, 3] rfl)
  exact loop13 _ 0 (Nat.lt_succ_self _) (Nat.zero_le _) _ _ hP hD hS ls (lv_sub hl [0, 1, 2, 5] rfl)

abbrev rmX2_rankOfTrialAmongRivals : Room := { frames := 5, cells := 0, slots := 0, locals := 119 }
set_option maxHeartbeats 4000000 in
set_option maxRecDepth 100000 in
/-- the rank of the trial -/
theorem mX2_rankOfTrialAmongRivals (l : Launch) (D : va_G) (cI cT : ClassId) (r tr k1 k2 k3 ts : Nat) (ad : Nat → Nat → Nat) (n : Nat) (hn : n ≤ 6) (tick : Int32) (KF S U V : Nat → Int32) (T : Nat → TV) (hT : cTeams T n) (ns : Nat) (hns : ns ≤ 12) (hk : KF 3 = nI ns) (k : Nat) (hk8 : k ≤ 1000) : MetI l D cI cT yX2_rankOfTrialAmongRivals wsX2_rankOfTrialAmongRivals rmX2_rankOfTrialAmongRivals [.ref r, .int (nI k)] ([(r, oR tr ts (ad 0 0) (ad 1 0) (nI n) tick), (tr, oK KF k1 k2 k3), (k1, aI cI 12 S), (k2, aI cI 12 U), (k3, aI cI 12 V), (ts, aQ cT 6 (tq ad n))] ++ blks cI ad T (n + 2)) [] ([(r, oR tr ts (ad 0 0) (ad 1 0) (nI n) tick), (tr, oK KF k1 k2 k3), (k1, aI cI 12 S), (k2, aI cI 12 U), (k3, aI cI 12 V), (ts, aQ cT 6 (tq ad n))] ++ blks cI ad (setT T 1 (cRiv S U V ns (KF 4) tick T k n)) (n + 2)) (nI (cRivals S U V ns (KF 4) tick T (T 0).1 k n)) := by
  refine Met.ofW (cc := cX2_rankOfTrialAmongRivals) (maxL := 7) (ret := (some .int)) (by decide) rfl ?_
  intro p e s m args below meth c s₁ B hml hv
  obtain ⟨hargs, hP, hR0, hK, hN⟩ := hv
  have hx := B.exec
  have hb := B.bytes
  have hr := B.returns
  have hts := atoms_spec (ws := wsX2_rankOfTrialAmongRivals) B.pre
  have hown : s.vm.findClass RX2 = some m.cls := findClass_of_methodNamed B.named
  have hlocks := B.notSynchronized
  have hiX0 : ∀ w ∈ u_ws RX0 TX0 20, w ∈ wsX2_rankOfTrialAmongRivals := by decide +kernel
  have hiX2 : ∀ w ∈ u_ws RX2 TX2 6, w ∈ wsX2_rankOfTrialAmongRivals := by decide +kernel
  have he : entryFrame m args 7 = F0 m 0 ((lg_sl [.ref r, .int (nI k)] ++ List.replicate (7 - (lg_sl [.ref r, .int (nI k)]).length) Slot.unset).toArray) [] := by rw [hargs]; exact lg_entry_eq m _ _
  rw [he]
  change W p l e rmX2_rankOfTrialAmongRivals s m args below meth c s.heap [] 0 0 (MQ below (va_Qi (S := Unit) (fun z _ => z = nI (cRivals S U V ns (KF 4) tick T (T 0).1 k n)) (fun _ t => va_P D vwCl ([(r, oR tr ts (ad 0 0) (ad 1 0) (nI n) tick), (tr, oK KF k1 k2 k3), (k1, aI cI 12 S), (k2, aI cI 12 U), (k3, aI cI 12 V), (ts, aQ cT 6 (tq ad n))] ++ blks cI ad (setT T 1 (cRiv S U V ns (KF 4) tick T k n)) (n + 2)) t.heap) (fr (List.map Prod.fst ([(r, oR tr ts (ad 0 0) (ad 1 0) (nI n) tick), (tr, oK KF k1 k2 k3), (k1, aI cI 12 S), (k2, aI cI 12 U), (k3, aI cI 12 V), (ts, aQ cT 6 (tq ad n))] ++ blks cI ad T (n + 2))))) args s 0 0 (fr (List.map Prod.fst ([(r, oR tr ts (ad 0 0) (ad 1 0) (nI n) tick), (tr, oK KF k1 k2 k3), (k1, aI cI 12 S), (k2, aI cI 12 U), (k3, aI cI 12 V), (ts, aQ cT 6 (tq ad n))] ++ blks cI ad T (n + 2))))) _
  obtain ⟨Q, hQ⟩ : ∃ Q, Q = MQ below (va_Qi (S := Unit) (fun z _ => z = nI (cRivals S U V ns (KF 4) tick T (T 0).1 k n)) (fun _ t => va_P D vwCl ([(r, oR tr ts (ad 0 0) (ad 1 0) (nI n) tick), (tr, oK KF k1 k2 k3), (k1, aI cI 12 S), (k2, aI cI 12 U), (k3, aI cI 12 V), (ts, aQ cT 6 (tq ad n))] ++ blks cI ad (setT T 1 (cRiv S U V ns (KF 4) tick T k n)) (n + 2)) t.heap) (fr (List.map Prod.fst ([(r, oR tr ts (ad 0 0) (ad 1 0) (nI n) tick), (tr, oK KF k1 k2 k3), (k1, aI cI 12 S), (k2, aI cI 12 U), (k3, aI cI 12 V), (ts, aQ cT 6 (tq ad n))] ++ blks cI ad T (n + 2))))) args s 0 0 (fr (List.map Prod.fst ([(r, oR tr ts (ad 0 0) (ad 1 0) (nI n) tick), (tr, oK KF k1 k2 k3), (k1, aI cI 12 S), (k2, aI cI 12 U), (k3, aI cI 12 V), (ts, aQ cT 6 (tq ad n))] ++ blks cI ad T (n + 2)))) := ⟨_, rfl⟩
  rw [← hQ]
  have hl := lv_entry [.ref r, .int (nI k)] (n := 7) (Nat.le_of_ble_eq_true rfl)
  generalize (lg_sl [.ref r, .int (nI k)] ++ List.replicate (7 - (lg_sl [.ref r, .int (nI k)]).length) Slot.unset).toArray = ls at hl ⊢
  have hl : lv_has ls 7 [(0, .ref r), (1, .int (nI k))] := hl
  obtain ⟨A, hAe⟩ : ∃ A, A = (fr (List.map Prod.fst ([(r, oR tr ts (ad 0 0) (ad 1 0) (nI n) tick), (tr, oK KF k1 k2 k3), (k1, aI cI 12 S), (k2, aI cI 12 U), (k3, aI cI 12 V), (ts, aQ cT 6 (tq ad n))] ++ blks cI ad T (n + 2)))) := ⟨_, rfl⟩
  have hA0 : ∀ q ∈ List.map Prod.fst ([(r, oR tr ts (ad 0 0) (ad 1 0) (nI n) tick), (tr, oK KF k1 k2 k3), (k1, aI cI 12 S), (k2, aI cI 12 U), (k3, aI cI 12 V), (ts, aQ cT 6 (tq ad n))] ++ blks cI ad T (n + 2)), A q := by rw [hAe]; exact fun q h => h
  have hD : va_D A ([(r, oR tr ts (ad 0 0) (ad 1 0) (nI n) tick), (tr, oK KF k1 k2 k3), (k1, aI cI 12 S), (k2, aI cI 12 U), (k3, aI cI 12 V), (ts, aQ cT 6 (tq ad n))] ++ blks cI ad T (n + 2)) := sp_D (List.nodup_append.mp (show ((([(r, oR tr ts (ad 0 0) (ad 1 0) (nI n) tick), (tr, oK KF k1 k2 k3), (k1, aI cI 12 S), (k2, aI cI 12 U), (k3, aI cI 12 V), (ts, aQ cT 6 (tq ad n))] ++ blks cI ad T (n + 2)) : va_W).map Prod.fst ++ ([] : va_W).map Prod.fst).Nodup by rw [← List.map_append]; exact hN)).1 hA0
  have hN : (List.map Prod.fst (([(r, oR tr ts (ad 0 0) (ad 1 0) (nI n) tick), (tr, oK KF k1 k2 k3), (k1, aI cI 12 S), (k2, aI cI 12 U), (k3, aI cI 12 V), (ts, aQ cT 6 (tq ad n))] ++ blks cI ad T (n + 2)) ++ []) : List Nat).Nodup := hN
  have hS : va_S A s.heap s.heap [] := va_S.rf
  obtain ⟨H, hH0⟩ : ∃ H, H = s.heap := ⟨_, rfl⟩
  obtain ⟨locs, hlo⟩ : ∃ L : List Loc, L = [] := ⟨_, rfl⟩
  have hP : va_P D vwCl ([(r, oR tr ts (ad 0 0) (ad 1 0) (nI n) tick), (tr, oK KF k1 k2 k3), (k1, aI cI 12 S), (k2, aI cI 12 U), (k3, aI cI 12 V), (ts, aQ cT 6 (tq ad n))] ++ blks cI ad T (n + 2)) H := by rw [hH0]; exact hP
  have hS : va_S A s.heap H locs := by rw [hH0, hlo]; exact hS
  rw [show W p l e rmX2_rankOfTrialAmongRivals s m args below meth c s.heap [] 0 0 Q (F0 m 0 ls []) = W p l e rmX2_rankOfTrialAmongRivals s m args below meth c H locs 0 0 Q (F0 m 0 ls []) by rw [hH0, hlo]]
  clear hH0 hlo
  refine lv_iconst (v := nI 0) hx hb dX2_rankOfTrialAmongRivals_0 (by decide) ?_
  refine lv_istore_n (lv' := [(2, .int (nI 0)), (0, .ref r), (1, .int (nI k))]) hx hb dX2_rankOfTrialAmongRivals_1 rfl hl (by decide) rfl (fun ls hl => ?_)
  refine lv_aload_n hx hb dX2_rankOfTrialAmongRivals_2 rfl (lv_at hl 1 rfl) ?_
  refine va_get (D := D) (ci := 2) (v := .ref ts) (C := RX2) (T := TX2) (N := 6) hx hb hts hiX2 hown hK.1 hP 0 rfl rfl 1 (by decide) (hts (.fieldLink RX2 18 "SledgeRace" "teams" "[LSledgeRace$Team;") (by decide +kernel)) (fun _ h9 => h9) rfl dX2_rankOfTrialAmongRivals_3 ?_
  refine lv_astore_n (lv' := [(3, .ref ts), (2, .int (nI 0)), (0, .ref r), (1, .int (nI k))]) hx hb dX2_rankOfTrialAmongRivals_6 rfl hl (by decide) rfl (fun ls hl => ?_)
  refine lv_aload_n hx hb dX2_rankOfTrialAmongRivals_7 rfl (lv_at hl 0 rfl) ?_
  refine va_alen hx hb hK.1 hP 5 1 rfl rfl (v := nI 6) rfl dX2_rankOfTrialAmongRivals_8 ?_
  refine lv_istore (lv' := [(4, .int (nI 6)), (3, .ref ts), (2, .int (nI 0)), (0, .ref r), (1, .int (nI k))]) hx hb dX2_rankOfTrialAmongRivals_9 hl (by decide) rfl (fun ls hl => ?_)
  refine lv_iconst (v := nI 0) hx hb dX2_rankOfTrialAmongRivals_11 (by decide) ?_
  refine lv_istore (lv' := [(5, .int (nI 0)), (4, .int (nI 6)), (3, .ref ts), (2, .int (nI 0)), (0, .ref r), (1, .int (nI k))]) hx hb dX2_rankOfTrialAmongRivals_12 hl (by decide) rfl (fun ls hl => ?_)
  have loop14 : ∀ (fu : Nat) (i : Nat) (q9 : Nat), (6 - i) < fu → (i ≤ 6) → (q9 = cRivals S U V ns (KF 4) tick T (T 0).1 k (min i n)) → ∀ (H : Heap) (locs : List Loc), va_P D vwCl ([(r, oR tr ts (ad 0 0) (ad 1 0) (nI n) tick), (tr, oK KF k1 k2 k3), (k1, aI cI 12 S), (k2, aI cI 12 U), (k3, aI cI 12 V), (ts, aQ cT 6 (tq ad n))] ++ blks cI ad (setT T 1 (cRiv S U V ns (KF 4) tick T k (min i n))) (n + 2)) H → va_D A ([(r, oR tr ts (ad 0 0) (ad 1 0) (nI n) tick), (tr, oK KF k1 k2 k3), (k1, aI cI 12 S), (k2, aI cI 12 U), (k3, aI cI 12 V), (ts, aQ cT 6 (tq ad n))] ++ blks cI ad (setT T 1 (cRiv S U V ns (KF 4) tick T k (min i n))) (n + 2)) → va_S A s.heap H locs → ∀ (ls : Array Slot), lv_has ls 7 [(5, .int (nI i)), (4, .int (nI 6)), (3, .ref ts), (2, .int (nI q9)), (0, .ref r), (1, .int (nI k))] → W p l e rmX2_rankOfTrialAmongRivals s m args below meth c H locs 0 0 Q (F0 m 14 ls []) := by
    intro fu
    induction fu with
    | zero => intro i q9 hfu; exact absurd hfu (Nat.not_lt_zero _)
    | succ fu ih14 =>
      intro i q9 hfu14 hi ek
      intro H locs hP hD hS ls hl
      refine lv_iload hx hb dX2_rankOfTrialAmongRivals_14 (lv_at hl 0 rfl) ?_
      refine lv_iload hx hb dX2_rankOfTrialAmongRivals_16 (lv_at hl 1 rfl) ?_
      refine sp_ge (by omega) (by omega) (tgt := 76) hx hb dX2_rankOfTrialAmongRivals_18 (by decide) (fun c18 => ?_) (fun c18 => ?_)
      · skip
        refine lv_iload_n hx hb dX2_rankOfTrialAmongRivals_76 rfl (lv_at hl 3 rfl) ?_
        refine sp_top (show nI q9 = nI (cRivals S U V ns (KF 4) tick T (T 0).1 k n) from by rw [ek, show min i n = n by omega]) ?_
        subst hQ
        have hP9 : va_P D vwCl ([(r, oR tr ts (ad 0 0) (ad 1 0) (nI n) tick), (tr, oK KF k1 k2 k3), (k1, aI cI 12 S), (k2, aI cI 12 U), (k3, aI cI 12 V), (ts, aQ cT 6 (tq ad n))] ++ blks cI ad (setT T 1 (cRiv S U V ns (KF 4) tick T k n)) (n + 2)) H := by have e : min i n = n := (by omega); rw [e] at hP; exact hP
        subst hAe
        exact W.iret hx hb hr (fun t ht hW => ⟨⟨_, (), rfl, rfl, by show va_P D vwCl _ t.heap; rw [ht]; exact hP9⟩, hS.F ht⟩) hS.2.2 dX2_rankOfTrialAmongRivals_77
      · skip
        refine lv_aload_n hx hb dX2_rankOfTrialAmongRivals_21 rfl (lv_at hl 2 rfl) ?_
        refine lv_iload hx hb dX2_rankOfTrialAmongRivals_22 (lv_at hl 0 rfl) ?_
        refine sp_aald hx hb hK hP 5 rfl (by omega) (by decide) dX2_rankOfTrialAmongRivals_24 (fun cin => ?_) (fun cin => ?_)
        · skip
          refine lv_astore (lv' := [(6, .ref (ad (i + 2) 0)), (5, .int (nI i)), (4, .int (nI 6)), (3, .ref ts), (2, .int (nI q9)), (0, .ref r), (1, .int (nI k))]) hx hb dX2_rankOfTrialAmongRivals_25 hl (by decide) rfl (fun ls hl => ?_)
          refine lv_aload hx hb dX2_rankOfTrialAmongRivals_27 (lv_at hl 0 rfl) ?_
          refine lv_ifnull hx hb dX2_rankOfTrialAmongRivals_29 ?_
          refine lv_aload_n hx hb dX2_rankOfTrialAmongRivals_32 rfl (lv_at hl 5 rfl) ?_
          refine lv_aload_n hx hb dX2_rankOfTrialAmongRivals_33 rfl (lv_at hl 5 rfl) ?_
          refine va_get (D := D) (ci := 2) (v := .ref (ad 1 0)) (C := RX2) (T := TX2) (N := 6) hx hb hts hiX2 hown hK.1 hP 0 rfl rfl 3 (by decide) (hts (.fieldLink RX2 29 "SledgeRace" "rival" "LSledgeRace$Team;") (by decide +kernel)) (fun _ h9 => h9) rfl dX2_rankOfTrialAmongRivals_34 ?_
          refine lv_aload hx hb dX2_rankOfTrialAmongRivals_37 (lv_at hl 0 rfl) ?_
          refine lv_aload hx hb dX2_rankOfTrialAmongRivals_39 (lv_at hl 0 rfl) ?_
          refine va_getN (D := D) (ci := 0) (v := .int ((((setT T 1 (cRiv S U V ns (KF 4) tick T k (min i n))) (i + 2)).1) 8)) (C := RX0) (T := TX0) (N := 20) hx hb hts hiX0 hown hK.1 (blk_P hP (show i + 2 < n + 2 by omega)) 0 rfl rfl 8 (by decide) (hK.n (w := .fieldLinkNest RX2 102 "SledgeRace$Team" "effort" "I" "SledgeRace") (by decide +kernel)) (fun _ h9 => h9) rfl dX2_rankOfTrialAmongRivals_41 ?_
          refine sp_top (show ((setT T 1 (cRiv S U V ns (KF 4) tick T k (min i n))) (i + 2)).1 8 = (T (i + 2)).1 8 by rw [setT_ne _ (by omega)]) ?_
          refine lv_iload_n hx hb dX2_rankOfTrialAmongRivals_44 rfl (lv_at hl 6 rfl) ?_
          refine sp_wV (rest := []) (As := [.ref (ad 1 0), .ref (ad (i + 2) 0), .int ((T (i + 2)).1 8), .int (nI k)]) (W1 := ([(r, oR tr ts (ad 0 0) (ad 1 0) (nI n) tick), (tr, oK KF k1 k2 k3), (k1, aI cI 12 S), (k2, aI cI 12 U), (k3, aI cI 12 V), (ts, aQ cT 6 (tq ad n))] ++ blks cI ad (setT (setT T 1 (cRiv S U V ns (KF 4) tick T k (min i n))) 1 (cLook S U V ns (KF 4) tick ((T (i + 2)).1 8) ((setT T 1 (cRiv S U V ns (KF 4) tick T k (min i n))) (i + 2)) k)) (n + 2))) (ci := 2) ⟨hx, hb, hml, hown, hts⟩ (mX2_lookAhead l D cI cT r tr k1 k2 k3 ts ad n hn tick KF S U V (setT T 1 (cRiv S U V ns (KF 4) tick T k (min i n))) ns hns hk (1) (i + 2) k (by decide) (by omega) (by omega) (by omega) (by rw [setT_ne _ (by omega)]; exact hT i cin) ((T (i + 2)).1 8)) (cwV 4 hts gX2_rankOfTrialAmongRivals_X2_lookAhead rfl rfl rfl (by decide +kernel) ⟨Nat.le_of_ble_eq_true rfl, Nat.le_of_ble_eq_true rfl⟩) hK hP hD hS (xb_fst rfl cI ad _ _ (n + 2)) rfl rfl rfl rfl hl.1 rfl (Nat.le_of_ble_eq_true rfl) dX2_rankOfTrialAmongRivals_45 ⟨Nat.le_of_ble_eq_true rfl, Nat.le_of_ble_eq_true rfl⟩ (fun H locs hP hD hS => ?_)
          have hP : va_P D vwCl ([(r, oR tr ts (ad 0 0) (ad 1 0) (nI n) tick), (tr, oK KF k1 k2 k3), (k1, aI cI 12 S), (k2, aI cI 12 U), (k3, aI cI 12 V), (ts, aQ cT 6 (tq ad n))] ++ blks cI ad (setT (setT T 1 (cRiv S U V ns (KF 4) tick T k (min i n))) 1 (cLook S U V ns (KF 4) tick ((T (i + 2)).1 8) ((setT T 1 (cRiv S U V ns (KF 4) tick T k (min i n))) (i + 2)) k)) (n + 2)) H := hP
          have hD : va_D A ([(r, oR tr ts (ad 0 0) (ad 1 0) (nI n) tick), (tr, oK KF k1 k2 k3), (k1, aI cI 12 S), (k2, aI cI 12 U), (k3, aI cI 12 V), (ts, aQ cT 6 (tq ad n))] ++ blks cI ad (setT (setT T 1 (cRiv S U V ns (KF 4) tick T k (min i n))) 1 (cLook S U V ns (KF 4) tick ((T (i + 2)).1 8) ((setT T 1 (cRiv S U V ns (KF 4) tick T k (min i n))) (i + 2)) k)) (n + 2)) := hD
          have eT : setT (setT T 1 (cRiv S U V ns (KF 4) tick T k (min i n))) 1 (cLook S U V ns (KF 4) tick ((T (i + 2)).1 8) ((setT T 1 (cRiv S U V ns (KF 4) tick T k (min i n))) (i + 2)) k) = setT T 1 (cRiv S U V ns (KF 4) tick T k (i + 1)) := by rw [setT_setT, setT_ne _ (by omega)]; rfl
          have hP : va_P D vwCl ([(r, oR tr ts (ad 0 0) (ad 1 0) (nI n) tick), (tr, oK KF k1 k2 k3), (k1, aI cI 12 S), (k2, aI cI 12 U), (k3, aI cI 12 V), (ts, aQ cT 6 (tq ad n))] ++ blks cI ad (setT T 1 (cRiv S U V ns (KF 4) tick T k (i + 1))) (n + 2)) H := by rw [← eT]; exact hP
          have hD : va_D A ([(r, oR tr ts (ad 0 0) (ad 1 0) (nI n) tick), (tr, oK KF k1 k2 k3), (k1, aI cI 12 S), (k2, aI cI 12 U), (k3, aI cI 12 V), (ts, aQ cT 6 (tq ad n))] ++ blks cI ad (setT T 1 (cRiv S U V ns (KF 4) tick T k (i + 1))) (n + 2)) := by rw [← eT]; exact hD
          refine lv_iload_n hx hb dX2_rankOfTrialAmongRivals_48 rfl (lv_at hl 4 rfl) ?_
          refine lv_aload_n hx hb dX2_rankOfTrialAmongRivals_49 rfl (lv_at hl 5 rfl) ?_
          refine va_get (D := D) (ci := 2) (v := .ref (ad 1 0)) (C := RX2) (T := TX2) (N := 6) hx hb hts hiX2 hown hK.1 hP 0 rfl rfl 3 (by decide) (hts (.fieldLink RX2 29 "SledgeRace" "rival" "LSledgeRace$Team;") (by decide +kernel)) (fun _ h9 => h9) rfl dX2_rankOfTrialAmongRivals_50 ?_
          refine lv_aload_n hx hb dX2_rankOfTrialAmongRivals_53 rfl (lv_at hl 5 rfl) ?_
          refine va_get (D := D) (ci := 2) (v := .ref (ad 0 0)) (C := RX2) (T := TX2) (N := 6) hx hb hts hiX2 hown hK.1 hP 0 rfl rfl 2 (by decide) (hts (.fieldLink RX2 25 "SledgeRace" "trial" "LSledgeRace$Team;") (by decide +kernel)) (fun _ h9 => h9) rfl dX2_rankOfTrialAmongRivals_54 ?_
          refine sp_rV (rest := [.int (nI q9)]) (As := [.ref (ad 0 0)]) ⟨hx, hb, hml, hown, hts⟩ (mX0_isAheadOf l D cI cT (ad 1 0) (ad 1 1) (ad 1 2) (ad 1 3) (ad 0 0) (ad 0 1) (ad 0 2) (ad 0 3) (((setT T 1 (cRiv S U V ns (KF 4) tick T k (i + 1))) 1).1) (((setT T 1 (cRiv S U V ns (KF 4) tick T k (i + 1))) 0).1)) (cwV 1 hts gX2_rankOfTrialAmongRivals_X0_isAheadOf rfl rfl rfl (by decide +kernel) ⟨Nat.le_of_ble_eq_true rfl, Nat.le_of_ble_eq_true rfl⟩) hK (va_P.app (w1 := [(ad 1 0, oT (((setT T 1 (cRiv S U V ns (KF 4) tick T k (i + 1))) 1).1) (ad 1 1) (ad 1 2) (ad 1 3))]) (w2 := [(ad 0 0, oT (((setT T 1 (cRiv S U V ns (KF 4) tick T k (i + 1))) 0).1) (ad 0 1) (ad 0 2) (ad 0 3))]) ((blk_P hP (show 1 < n + 2 by omega)).sub (ws' := [(ad 1 0, oT (((setT T 1 (cRiv S U V ns (KF 4) tick T k (i + 1))) 1).1) (ad 1 1) (ad 1 2) (ad 1 3))]) [0] rfl) ((blk_P hP (show 0 < n + 2 by omega)).sub (ws' := [(ad 0 0, oT (((setT T 1 (cRiv S U V ns (KF 4) tick T k (i + 1))) 0).1) (ad 0 1) (ad 0 2) (ad 0 3))]) [0] rfl)) (ci := 0) rfl rfl rfl rfl hl.1 rfl (Nat.le_of_ble_eq_true rfl) dX2_rankOfTrialAmongRivals_57 ⟨Nat.le_of_ble_eq_true rfl, Nat.le_of_ble_eq_true rfl⟩ ?_
          refine sp_top (show bI (cAhead (((setT T 1 (cRiv S U V ns (KF 4) tick T k (i + 1))) 1).1) (((setT T 1 (cRiv S U V ns (KF 4) tick T k (i + 1))) 0).1)) = bI (cAhead (cRiv S U V ns (KF 4) tick T k (i + 1)).1 (T 0).1) by rw [setT_i, setT_ne _ (by decide)]) ?_
          refine sp_if_eq (tgt := 67) hx hb dX2_rankOfTrialAmongRivals_60 (by decide) (fun c60 => ?_) (fun c60 => ?_)
          · skip
            refine lv_iconst (v := nI 0) hx hb dX2_rankOfTrialAmongRivals_67 (by decide) ?_
            refine lv_iadd hx hb dX2_rankOfTrialAmongRivals_68 ?_
            refine sp_top (nI_add q9 0 : (nI q9) + (nI 0) = nI (q9 + 0)) ?_
            refine lv_istore_n (lv' := [(2, .int (nI (q9 + 0))), (6, .ref (ad (i + 2) 0)), (5, .int (nI i)), (4, .int (nI 6)), (3, .ref ts), (0, .ref r), (1, .int (nI k))]) hx hb dX2_rankOfTrialAmongRivals_69 rfl hl (by decide) rfl (fun ls hl => ?_)
            refine lv_iinc (v := nI (i + 1)) (lv' := [(5, .int (nI (i + 1))), (2, .int (nI (q9 + 0))), (6, .ref (ad (i + 2) 0)), (4, .int (nI 6)), (3, .ref ts), (0, .ref r), (1, .int (nI k))]) hx hb dX2_rankOfTrialAmongRivals_70 hl (k := 2) rfl ((nI_1 i)) (by decide) rfl (fun ls hl => ?_)
            refine lv_goto (tgt := 14) hx hb dX2_rankOfTrialAmongRivals_73 (by decide) ?_
            exact ih14 (i + 1) (q9 + 0) (by omega) (by omega) (by rw [ek, show min i n = i by omega, show min (i + 1) n = i + 1 by omega]; simp [cRivals, cnt]; exact c60) _ _ (by rw [show min (i + 1) n = i + 1 by omega]; exact hP) (by rw [show min (i + 1) n = i + 1 by omega]; exact hD) hS ls (lv_sub hl [0, 3, 4, 1, 5, 6] rfl)
          · skip
            refine lv_iconst (v := nI 1) hx hb dX2_rankOfTrialAmongRivals_63 (by decide) ?_
            refine lv_goto (tgt := 68) hx hb dX2_rankOfTrialAmongRivals_64 (by decide) ?_
            refine lv_iadd hx hb dX2_rankOfTrialAmongRivals_68 ?_
            refine sp_top (nI_add q9 1 : (nI q9) + (nI 1) = nI (q9 + 1)) ?_
            refine lv_istore_n (lv' := [(2, .int (nI (q9 + 1))), (6, .ref (ad (i + 2) 0)), (5, .int (nI i)), (4, .int (nI 6)), (3, .ref ts), (0, .ref r), (1, .int (nI k))]) hx hb dX2_rankOfTrialAmongRivals_69 rfl hl (by decide) rfl (fun ls hl => ?_)
            refine lv_iinc (v := nI (i + 1)) (lv' := [(5, .int (nI (i + 1))), (2, .int (nI (q9 + 1))), (6, .ref (ad (i + 2) 0)), (4, .int (nI 6)), (3, .ref ts), (0, .ref r), (1, .int (nI k))]) hx hb dX2_rankOfTrialAmongRivals_70 hl (k := 2) rfl ((nI_1 i)) (by decide) rfl (fun ls hl => ?_)
            refine lv_goto (tgt := 14) hx hb dX2_rankOfTrialAmongRivals_73 (by decide) ?_
            exact ih14 (i + 1) (q9 + 1) (by omega) (by omega) (by rw [ek, show min i n = i by omega, show min (i + 1) n = i + 1 by omega]; simp [cRivals, cnt]; exact c60) _ _ (by rw [show min (i + 1) n = i + 1 by omega]; exact hP) (by rw [show min (i + 1) n = i + 1 by omega]; exact hD) hS ls (lv_sub hl [0, 3, 4, 1, 5, 6] rfl)
        · skip
          refine lv_astoreN (lv' := [(6, .null), (5, .int (nI i)), (4, .int (nI 6)), (3, .ref ts), (2, .int (nI q9)), (0, .ref r), (1, .int (nI k))]) hx hb dX2_rankOfTrialAmongRivals_25 hl (by decide) rfl (fun ls hl => ?_)
          refine lv_aloadN hx hb dX2_rankOfTrialAmongRivals_27 (lv_at hl 0 rfl) ?_
          refine lv_ifnullN (tgt := 70) hx hb dX2_rankOfTrialAmongRivals_29 (by decide) ?_
          refine lv_iinc (v := nI (i + 1)) (lv' := [(5, .int (nI (i + 1))), (6, .null), (4, .int (nI 6)), (3, .ref ts), (2, .int (nI q9)), (0, .ref r), (1, .int (nI k))]) hx hb dX2_rankOfTrialAmongRivals_70 hl (k := 1) rfl ((nI_1 i)) (by decide) rfl (fun ls hl => ?_)
          refine lv_goto (tgt := 14) hx hb dX2_rankOfTrialAmongRivals_73 (by decide) ?_
          exact ih14 (i + 1) q9 (by omega) (by omega) (by rw [ek, show min i n = n by omega, show min (i + 1) n = n by omega]) _ _ (by rw [show min (i + 1) n = n by omega]; have e : min i n = n := (by omega); rw [e] at hP; exact hP) (by rw [show min (i + 1) n = n by omega]; have e : min i n = n := (by omega); rw [e] at hD; exact hD) hS ls (lv_sub hl [0, 2, 3, 4, 5, 6] rfl)
  exact loop14 _ 0 0 (Nat.lt_succ_self _) (Nat.zero_le _) (by rw [Nat.zero_min]; rfl) _ _ (by rw [Nat.zero_min, show setT T 1 (cRiv S U V ns (KF 4) tick T k 0) = T from setT_self T 1]; exact hP) (by rw [Nat.zero_min, show setT T 1 (cRiv S U V ns (KF 4) tick T k 0) = T from setT_self T 1]; exact hD) hS ls (lv_sub hl [0, 1, 2, 3, 4, 5] rfl)
