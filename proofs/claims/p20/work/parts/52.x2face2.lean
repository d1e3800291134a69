abbrev rmX2_run : Room := { frames := 6, cells := 1, slots := 6, locals := 118 }
set_option maxHeartbeats 4000000 in
set_option maxRecDepth 100000 in
/-- run -/
theorem mX2_run (l : Launch) (D : va_G) (cI cT : ClassId) (hl9 : l.stackTraces = false) (sz : Nat) (r tr k1 k2 k3 ts : Nat) (ad : Nat → Nat → Nat) (n : Nat) (hn : n ≤ 6) (tick : Int32) (KF S U V : Nat → Int32) (T : Nat → TV) (hT : cTeams T n) (ns : Nat) (hns : ns ≤ 12) (hk : KF 3 = nI ns) (x : Int32) : MetO l D cI cT yX2_run wsX2_run rmX2_run [.ref r, .int x] ([(r, oR tr ts (ad 0 0) (ad 1 0) (nI n) tick), (tr, oK KF k1 k2 k3), (k1, aI cI 12 S), (k2, aI cI 12 U), (k3, aI cI 12 V), (ts, aQ cT 6 (tq ad n))] ++ blks cI ad T (n + 2)) ([(r, oR tr ts (ad 0 0) (ad 1 0) (nI n) (tick + x)), (tr, oK KF k1 k2 k3), (k1, aI cI 12 S), (k2, aI cI 12 U), (k3, aI cI 12 V), (ts, aQ cT 6 (tq ad n))] ++ blks cI ad (cRunT S U V ns (KF 4) tick T n x.toNatClampNeg) (n + 2)) (rRun x S U V ns (KF 4) tick T n) 1 6 sz := by
  refine vx_ofW (cc := cX2_run) (maxL := 3) (ret := (some .int)) (by decide) rfl ?_
  intro p e s m args below meth c s₁ B hml hex hv
  obtain ⟨⟨hargs, hsz, hP, hR0, hK, hN⟩, hXZ, hXS⟩ := hv
  subst hsz
  have hAO := hXS.2.2.2.2.1
  have hx := B.exec
  have hb := B.bytes
  have hr := B.returns
  have hts := atoms_spec (ws := wsX2_run) B.pre
  have hown : s.vm.findClass RX2 = some m.cls := findClass_of_methodNamed B.named
  have hlocks := B.notSynchronized
  have hiX2 : ∀ w ∈ u_ws RX2 TX2 6, w ∈ wsX2_run := by decide +kernel
  have he : entryFrame m args 3 = F0 m 0 ((lg_sl [.ref r, .int x] ++ List.replicate (3 - (lg_sl [.ref r, .int x]).length) Slot.unset).toArray) [] := by rw [hargs]; exact lg_entry_eq m _ _
  rw [he]
  change W p l e rmX2_run s m args below meth c s.heap [] 0 0 (vx_MQ below (va_Qi (S := Unit) (fun z _ => rRun x S U V ns (KF 4) tick T n = .inl z) (fun _ t => va_P D vwCl ([(r, oR tr ts (ad 0 0) (ad 1 0) (nI n) (tick + x)), (tr, oK KF k1 k2 k3), (k1, aI cI 12 S), (k2, aI cI 12 U), (k3, aI cI 12 V), (ts, aQ cT 6 (tq ad n))] ++ blks cI ad (cRunT S U V ns (KF 4) tick T n x.toNatClampNeg) (n + 2)) t.heap) (frA (List.map Prod.fst ([(r, oR tr ts (ad 0 0) (ad 1 0) (nI n) tick), (tr, oK KF k1 k2 k3), (k1, aI cI 12 S), (k2, aI cI 12 U), (k3, aI cI 12 V), (ts, aQ cT 6 (tq ad n))] ++ blks cI ad T (n + 2))) s.heap.size)) (XO D ([(r, oR tr ts (ad 0 0) (ad 1 0) (nI n) tick), (tr, oK KF k1 k2 k3), (k1, aI cI 12 S), (k2, aI cI 12 U), (k3, aI cI 12 V), (ts, aQ cT 6 (tq ad n))] ++ blks cI ad T (n + 2)) (fun E => rRun x S U V ns (KF 4) tick T n = .inr E) (frA (List.map Prod.fst ([(r, oR tr ts (ad 0 0) (ad 1 0) (nI n) tick), (tr, oK KF k1 k2 k3), (k1, aI cI 12 S), (k2, aI cI 12 U), (k3, aI cI 12 V), (ts, aQ cT 6 (tq ad n))] ++ blks cI ad T (n + 2))) s.heap.size)) args s 1 6 (frA (List.map Prod.fst ([(r, oR tr ts (ad 0 0) (ad 1 0) (nI n) tick), (tr, oK KF k1 k2 k3), (k1, aI cI 12 S), (k2, aI cI 12 U), (k3, aI cI 12 V), (ts, aQ cT 6 (tq ad n))] ++ blks cI ad T (n + 2))) s.heap.size)) _
  obtain ⟨A, hAe⟩ : ∃ A, A = (frA (List.map Prod.fst ([(r, oR tr ts (ad 0 0) (ad 1 0) (nI n) tick), (tr, oK KF k1 k2 k3), (k1, aI cI 12 S), (k2, aI cI 12 U), (k3, aI cI 12 V), (ts, aQ cT 6 (tq ad n))] ++ blks cI ad T (n + 2))) s.heap.size) := ⟨_, rfl⟩
  rw [← hAe]
  have hXZ : XZ A s s.heap := by rw [hAe]; exact hXZ
  obtain ⟨Q, hQ⟩ : ∃ Q, Q = vx_MQ below (va_Qi (S := Unit) (fun z _ => rRun x S U V ns (KF 4) tick T n = .inl z) (fun _ t => va_P D vwCl ([(r, oR tr ts (ad 0 0) (ad 1 0) (nI n) (tick + x)), (tr, oK KF k1 k2 k3), (k1, aI cI 12 S), (k2, aI cI 12 U), (k3, aI cI 12 V), (ts, aQ cT 6 (tq ad n))] ++ blks cI ad (cRunT S U V ns (KF 4) tick T n x.toNatClampNeg) (n + 2)) t.heap) A) (XO D ([(r, oR tr ts (ad 0 0) (ad 1 0) (nI n) tick), (tr, oK KF k1 k2 k3), (k1, aI cI 12 S), (k2, aI cI 12 U), (k3, aI cI 12 V), (ts, aQ cT 6 (tq ad n))] ++ blks cI ad T (n + 2)) (fun E => rRun x S U V ns (KF 4) tick T n = .inr E) A) args s 1 6 A := ⟨_, rfl⟩
  rw [← hQ]
  have hl := lv_entry [.ref r, .int x] (n := 3) (Nat.le_of_ble_eq_true rfl)
  generalize (lg_sl [.ref r, .int x] ++ List.replicate (3 - (lg_sl [.ref r, .int x]).length) Slot.unset).toArray = ls at hl ⊢
  have hl : lv_has ls 3 [(0, .ref r), (1, .int x)] := hl
  have hA0 : ∀ q ∈ List.map Prod.fst ([(r, oR tr ts (ad 0 0) (ad 1 0) (nI n) tick), (tr, oK KF k1 k2 k3), (k1, aI cI 12 S), (k2, aI cI 12 U), (k3, aI cI 12 V), (ts, aQ cT 6 (tq ad n))] ++ blks cI ad T (n + 2)), A q := by rw [hAe]; exact fun q h => Or.inl h
  have hA : ∀ q : Nat, s.heap.size ≤ q → A q := by rw [hAe]; exact fun q h => Or.inr h
  have hD : va_D A ([(r, oR tr ts (ad 0 0) (ad 1 0) (nI n) tick), (tr, oK KF k1 k2 k3), (k1, aI cI 12 S), (k2, aI cI 12 U), (k3, aI cI 12 V), (ts, aQ cT 6 (tq ad n))] ++ blks cI ad T (n + 2)) := sp_D (List.nodup_append.mp (show ((([(r, oR tr ts (ad 0 0) (ad 1 0) (nI n) tick), (tr, oK KF k1 k2 k3), (k1, aI cI 12 S), (k2, aI cI 12 U), (k3, aI cI 12 V), (ts, aQ cT 6 (tq ad n))] ++ blks cI ad T (n + 2)) : va_W).map Prod.fst ++ ([] : va_W).map Prod.fst).Nodup by rw [← List.map_append]; exact hN)).1 hA0
  have hN : (List.map Prod.fst (([(r, oR tr ts (ad 0 0) (ad 1 0) (nI n) tick), (tr, oK KF k1 k2 k3), (k1, aI cI 12 S), (k2, aI cI 12 U), (k3, aI cI 12 V), (ts, aQ cT 6 (tq ad n))] ++ blks cI ad T (n + 2)) ++ []) : List Nat).Nodup := hN
  have hS : va_S A s.heap s.heap [] := va_S.rf
  obtain ⟨H, hH0⟩ : ∃ H, H = s.heap := ⟨_, rfl⟩
  obtain ⟨locs, hlo⟩ : ∃ L : List Loc, L = [] := ⟨_, rfl⟩
  have hP : va_P D vwCl ([(r, oR tr ts (ad 0 0) (ad 1 0) (nI n) tick), (tr, oK KF k1 k2 k3), (k1, aI cI 12 S), (k2, aI cI 12 U), (k3, aI cI 12 V), (ts, aQ cT 6 (tq ad n))] ++ blks cI ad T (n + 2)) H := by rw [hH0]; exact hP
  have hS : va_S A s.heap H locs := by rw [hH0, hlo]; exact hS
  rw [show W p l e rmX2_run s m args below meth c s.heap [] 0 0 Q (F0 m 0 ls []) = W p l e rmX2_run s m args below meth c H locs 0 0 Q (F0 m 0 ls []) by rw [hH0, hlo]]
  clear hH0 hlo
  refine lv_iload_n hx hb dX2_run_0 rfl (lv_at hl 1 rfl) ?_
  refine lv_iconst (v := 1) hx hb dX2_run_1 (by decide) ?_
  refine lv_sipush (v := 500) hx hb dX2_run_2 (by decide) ?_
  refine sp_rS (rest := []) (As := [.int x, .int 1, .int 500]) ⟨hx, hb, hml, hown, hts⟩ (mX2_isOutside l D cI cT x 1 500) (va_cwS 3 hts gX2_run_X2_isOutside rfl rfl rfl (by decide +kernel) ⟨Nat.le_of_ble_eq_true rfl, Nat.le_of_ble_eq_true rfl⟩) hK (show va_P D vwCl [] _ from fun k q h => by simp at h) rfl hl.1 rfl (Nat.le_of_ble_eq_true rfl) dX2_run_5 ⟨Nat.le_of_ble_eq_true rfl, Nat.le_of_ble_eq_true rfl⟩ ?_
  refine sp_if_eq (tgt := 21) hx hb dX2_run_8 (by decide) (fun c8 => ?_) (fun c8 => ?_)
  · skip
    have c8 : isIn x 1 500 = true := isIn_not c8
    obtain ⟨k9, hk91, hk92, rfl⟩ := isIn_rng (a := 1) (b := 500) (by decide) (by decide) c8
    have hck : (nI k9).toNatClampNeg = k9 := nI_clamp (by omega)
    refine lv_aload_n hx hb dX2_run_21 rfl (lv_at hl 0 rfl) ?_
    refine va_get (D := D) (ci := 2) (v := .int (nI n)) (C := RX2) (T := TX2) (N := 6) hx hb hts hiX2 hown hK.1 hP 0 rfl rfl 4 (by decide) (hts (.fieldLink RX2 32 "SledgeRace" "teamCount" "I") (by decide +kernel)) (fun _ h9 => h9) rfl dX2_run_22 ?_
    refine lv_if_ne (tgt := 38) hx hb dX2_run_25 (by decide) (fun c25 => ?_) (fun c25 => ?_)
    · skip
      refine lv_iconst (v := nI 0) hx hb dX2_run_38 (by decide) ?_
      refine lv_istore_n (lv' := [(2, .int (nI 0)), (0, .ref r), (1, .int (nI k9))]) hx hb dX2_run_39 rfl hl (by decide) rfl (fun ls hl => ?_)
      have loop40 : ∀ (fu : Nat) (j : Nat), (k9 - j) < fu → (j ≤ k9) → ∀ (H : Heap) (locs : List Loc), va_P D vwCl ([(r, oR tr ts (ad 0 0) (ad 1 0) (nI n) (tick + nI j)), (tr, oK KF k1 k2 k3), (k1, aI cI 12 S), (k2, aI cI 12 U), (k3, aI cI 12 V), (ts, aQ cT 6 (tq ad n))] ++ blks cI ad (cRunT S U V ns (KF 4) tick T n j) (n + 2)) H → va_D A ([(r, oR tr ts (ad 0 0) (ad 1 0) (nI n) (tick + nI j)), (tr, oK KF k1 k2 k3), (k1, aI cI 12 S), (k2, aI cI 12 U), (k3, aI cI 12 V), (ts, aQ cT 6 (tq ad n))] ++ blks cI ad (cRunT S U V ns (KF 4) tick T n j) (n + 2)) → va_S A s.heap H locs → ∀ (ls : Array Slot), lv_has ls 3 [(2, .int (nI j)), (0, .ref r), (1, .int (nI k9))] → W p l e rmX2_run s m args below meth c H locs 0 0 Q (F0 m 40 ls []) := by
        intro fu
        induction fu with
        | zero => intro j hfu; exact absurd hfu (Nat.not_lt_zero _)
        | succ fu ih40 =>
          intro j hfu40 hj
          intro H locs hP hD hS ls hl
          refine lv_iload_n hx hb dX2_run_40 rfl (lv_at hl 0 rfl) ?_
          refine lv_iload_n hx hb dX2_run_41 rfl (lv_at hl 2 rfl) ?_
          refine sp_ge (by omega) (by omega) (tgt := 55) hx hb dX2_run_42 (by decide) (fun c42 => ?_) (fun c42 => ?_)
          · skip
            refine lv_aload_n hx hb dX2_run_55 rfl (lv_at hl 1 rfl) ?_
            refine sp_rV (rest := []) (As := []) ⟨hx, hb, hml, hown, hts⟩ (mX2_teamsAtEnd l D cI cT r tr k1 k2 k3 ts ad n hn (tick + nI j) KF S U V (cRunT S U V ns (KF 4) tick T n j) ) (cwV 0 hts gX2_run_X2_teamsAtEnd rfl rfl rfl (by decide +kernel) ⟨Nat.le_of_ble_eq_true rfl, Nat.le_of_ble_eq_true rfl⟩) hK hP (ci := 2) rfl rfl rfl rfl hl.1 rfl (Nat.le_of_ble_eq_true rfl) dX2_run_56 ⟨Nat.le_of_ble_eq_true rfl, Nat.le_of_ble_eq_true rfl⟩ ?_
            have hv9 : rRun (nI k9) S U V ns (KF 4) tick T n = .inl (nI (cEnded (cRunT S U V ns (KF 4) tick T n j) n)) := by have e : j = k9 := (by omega); subst e; simp [rRun, c8, c25, hck]
            have hP9 : va_P D vwCl ([(r, oR tr ts (ad 0 0) (ad 1 0) (nI n) (tick + (nI k9))), (tr, oK KF k1 k2 k3), (k1, aI cI 12 S), (k2, aI cI 12 U), (k3, aI cI 12 V), (ts, aQ cT 6 (tq ad n))] ++ blks cI ad (cRunT S U V ns (KF 4) tick T n (nI k9).toNatClampNeg) (n + 2)) H := by have e : j = k9 := (by omega); subst e; rw [hck]; exact hP
            subst hQ
            refine vx_ret (W.widen (k := 1) (n := 6) (Nat.le_of_ble_eq_true rfl) (Nat.le_of_ble_eq_true rfl) ?_)
            exact W.iret hx hb hr (fun t ht hW => ⟨⟨_, (), rfl, hv9, by show va_P D vwCl _ t.heap; rw [ht]; exact hP9⟩, hS.F ht⟩) hS.2.2 dX2_run_59
          · skip
            refine lv_aload_n hx hb dX2_run_45 rfl (lv_at hl 1 rfl) ?_
            refine sp_wV (rest := []) (As := []) (W1 := ([(r, oR tr ts (ad 0 0) (ad 1 0) (nI n) ((tick + nI j) + 1)), (tr, oK KF k1 k2 k3), (k1, aI cI 12 S), (k2, aI cI 12 U), (k3, aI cI 12 V), (ts, aQ cT 6 (tq ad n))] ++ blks cI ad (eachT (cTickN S U V ns (KF 4) ((tick + nI j) + 1)) (cRunT S U V ns (KF 4) tick T n j) n) (n + 2))) (ci := 2) ⟨hx, hb, hml, hown, hts⟩ (mX2_passTick l D cI cT r tr k1 k2 k3 ts ad n hn (tick + nI j) KF S U V (cRunT S U V ns (KF 4) tick T n j) (cRunT_ok hT j) ns hns hk) (cwV 0 hts gX2_run_X2_passTick rfl rfl rfl (by decide +kernel) ⟨Nat.le_of_ble_eq_true rfl, Nat.le_of_ble_eq_true rfl⟩) hK hP hD hS (xb_fst rfl cI ad _ _ (n + 2)) rfl rfl rfl rfl hl.1 rfl (Nat.le_of_ble_eq_true rfl) dX2_run_46 ⟨Nat.le_of_ble_eq_true rfl, Nat.le_of_ble_eq_true rfl⟩ (fun H locs hP hD hS => ?_)
            have hP : va_P D vwCl ([(r, oR tr ts (ad 0 0) (ad 1 0) (nI n) ((tick + nI j) + 1)), (tr, oK KF k1 k2 k3), (k1, aI cI 12 S), (k2, aI cI 12 U), (k3, aI cI 12 V), (ts, aQ cT 6 (tq ad n))] ++ blks cI ad (eachT (cTickN S U V ns (KF 4) ((tick + nI j) + 1)) (cRunT S U V ns (KF 4) tick T n j) n) (n + 2)) H := hP
            have hD : va_D A ([(r, oR tr ts (ad 0 0) (ad 1 0) (nI n) ((tick + nI j) + 1)), (tr, oK KF k1 k2 k3), (k1, aI cI 12 S), (k2, aI cI 12 U), (k3, aI cI 12 V), (ts, aQ cT 6 (tq ad n))] ++ blks cI ad (eachT (cTickN S U V ns (KF 4) ((tick + nI j) + 1)) (cRunT S U V ns (KF 4) tick T n j) n) (n + 2)) := hD
            refine lv_iinc (v := nI (j + 1)) (lv' := [(2, .int (nI (j + 1))), (0, .ref r), (1, .int (nI k9))]) hx hb dX2_run_49 hl (k := 0) rfl ((nI_1 j)) (by decide) rfl (fun ls hl => ?_)
            refine lv_goto (tgt := 40) hx hb dX2_run_52 (by decide) ?_
            exact ih40 (j + 1) (by omega) (by omega) _ _ (by rw [← nI_1, ← Int32.add_assoc]; exact hP) (by rw [← nI_1, ← Int32.add_assoc]; exact hD) hS ls (lv_sub hl [0, 1, 2] rfl)
      exact loop40 _ 0 (Nat.lt_succ_self _) (Nat.zero_le _) _ _ (by rw [show tick + nI 0 = tick from Int32.add_zero tick]; exact hP) (by rw [show tick + nI 0 = tick from Int32.add_zero tick]; exact hD) hS ls (lv_sub hl [0, 1, 2] rfl)
    · skip
      subst hQ
      exact sp_throw (cls := xISE) (text := "there are no teams") (w := ([(r, oR tr ts (ad 0 0) (ad 1 0) (nI n) tick), (tr, oK KF k1 k2 k3), (k1, aI cI 12 S), (k2, aI cI 12 U), (k3, aI cI 12 V), (ts, aQ cT 6 (tq ad n))] ++ blks cI ad T (n + 2))) (res := fun E => rRun (nI k9) S U V ns (KF 4) tick T n = .inr E) hx hb hl9 hown sp_fit2 sp_fits (by decide) (hts (.classLink RX2 61 xISE) (by decide +kernel)) (hts (.initialized xISE) (by decide +kernel)) hXS.2.2.1 (fun w hw => hts w (by first | exact List.mem_cons_of_mem _ (List.mem_append_right _ hw) | exact List.mem_cons_of_mem _ (List.mem_append_left _ (List.mem_append_right _ hw)) | exact List.mem_cons_of_mem _ (List.mem_append_left _ (List.mem_append_left _ (List.mem_append_right _ hw))))) sp_ng2 sp_gw2 hXZ hXS hS hP (hl.1.trans hml.symm) dX2_run_28 dX2_run_31 dX2_run_32 dX2_run_34 dX2_run_37 hex (Nat.le_of_ble_eq_true rfl) (Nat.le_of_ble_eq_true rfl) (Nat.le_of_ble_eq_true rfl) (Nat.le_of_ble_eq_true rfl) hlocks (Nat.le_of_ble_eq_true rfl) (Nat.le_of_ble_eq_true rfl) (show rRun (nI k9) S U V ns (KF 4) tick T n = .inr xISE from by simp [rRun, c8, c25, hck])
  · skip
    have c8 : isIn x 1 500 = false := isIn_not c8
    subst hQ
    exact sp_throw (cls := xIAE) (text := "ticks is not 1 to 500") (w := ([(r, oR tr ts (ad 0 0) (ad 1 0) (nI n) tick), (tr, oK KF k1 k2 k3), (k1, aI cI 12 S), (k2, aI cI 12 U), (k3, aI cI 12 V), (ts, aQ cT 6 (tq ad n))] ++ blks cI ad T (n + 2))) (res := fun E => rRun x S U V ns (KF 4) tick T n = .inr E) hx hb hl9 hown sp_fit1 sp_fits (by decide) (hts (.classLink RX2 43 xIAE) (by decide +kernel)) (hts (.initialized xIAE) (by decide +kernel)) hXS.2.1 (fun w hw => hts w (by first | exact List.mem_cons_of_mem _ (List.mem_append_right _ hw) | exact List.mem_cons_of_mem _ (List.mem_append_left _ (List.mem_append_right _ hw)) | exact List.mem_cons_of_mem _ (List.mem_append_left _ (List.mem_append_left _ (List.mem_append_right _ hw))))) sp_ng1 sp_gw1 hXZ hXS hS hP (hl.1.trans hml.symm) dX2_run_11 dX2_run_14 dX2_run_15 dX2_run_17 dX2_run_20 hex (Nat.le_of_ble_eq_true rfl) (Nat.le_of_ble_eq_true rfl) (Nat.le_of_ble_eq_true rfl) (Nat.le_of_ble_eq_true rfl) hlocks (Nat.le_of_ble_eq_true rfl) (Nat.le_of_ble_eq_true rfl) (show rRun x S U V ns (KF 4) tick T n = .inr xIAE from by simp [rRun, c8])

abbrev rmX2_foresee : Room := { frames := 7, cells := 2, slots := 12, locals := 145 }
set_option maxHeartbeats 4000000 in
set_option maxRecDepth 100000 in
/-- foresee -/
theorem mX2_foresee (l : Launch) (D : va_G) (cI cT : ClassId) (hl9 : l.stackTraces = false) (sz : Nat) (r tr k1 k2 k3 ts : Nat) (ad : Nat → Nat → Nat) (n : Nat) (hn : n ≤ 6) (tick : Int32) (KF S U V : Nat → Int32) (T : Nat → TV) (hT : cTeams T n) (ns : Nat) (hns : ns ≤ 12) (hk : KF 3 = nI ns) (x y9 w : Int32) : MetO l D cI cT yX2_foresee wsX2_foresee rmX2_foresee [.ref r, .int x, .int y9, .int w] ([(r, oR tr ts (ad 0 0) (ad 1 0) (nI n) tick), (tr, oK KF k1 k2 k3), (k1, aI cI 12 S), (k2, aI cI 12 U), (k3, aI cI 12 V), (ts, aQ cT 6 (tq ad n))] ++ blks cI ad T (n + 2)) ([(r, oR tr ts (ad 0 0) (ad 1 0) (nI n) tick), (tr, oK KF k1 k2 k3), (k1, aI cI 12 S), (k2, aI cI 12 U), (k3, aI cI 12 V), (ts, aQ cT 6 (tq ad n))] ++ blks cI ad (cSee x y9 w S U V ns (KF 4) tick T n) (n + 2)) (rSee x y9 w S U V ns (KF 4) tick T n) 2 12 sz := by
  refine vx_ofW (cc := cX2_foresee) (maxL := 5) (ret := (some .int)) (by decide) rfl ?_
  intro p e s m args below meth c s₁ B hml hex hv
  obtain ⟨⟨hargs, hsz, hP, hR0, hK, hN⟩, hXZ, hXS⟩ := hv
  subst hsz
  have hAO := hXS.2.2.2.2.1
  have hx := B.exec
  have hb := B.bytes
  have hr := B.returns
  have hts := atoms_spec (ws := wsX2_foresee) B.pre
  have hown : s.vm.findClass RX2 = some m.cls := findClass_of_methodNamed B.named
  have hlocks := B.notSynchronized
  have hiX0 : ∀ w ∈ u_ws RX0 TX0 20, w ∈ wsX2_foresee := by decide +kernel
  have hiX2 : ∀ w ∈ u_ws RX2 TX2 6, w ∈ wsX2_foresee := by decide +kernel
  have he : entryFrame m args 5 = F0 m 0 ((lg_sl [.ref r, .int x, .int y9, .int w] ++ List.replicate (5 - (lg_sl [.ref r, .int x, .int y9, .int w]).length) Slot.unset).toArray) [] := by rw [hargs]; exact lg_entry_eq m _ _
  rw [he]
  change W p l e rmX2_foresee s m args below meth c s.heap [] 0 0 (vx_MQ below (va_Qi (S := Unit) (fun z _ => rSee x y9 w S U V ns (KF 4) tick T n = .inl z) (fun _ t => va_P D vwCl ([(r, oR tr ts (ad 0 0) (ad 1 0) (nI n) tick), (tr, oK KF k1 k2 k3), (k1, aI cI 12 S), (k2, aI cI 12 U), (k3, aI cI 12 V), (ts, aQ cT 6 (tq ad n))] ++ blks cI ad (cSee x y9 w S U V ns (KF 4) tick T n) (n + 2)) t.heap) (frA (List.map Prod.fst ([(r, oR tr ts (ad 0 0) (ad 1 0) (nI n) tick), (tr, oK KF k1 k2 k3), (k1, aI cI 12 S), (k2, aI cI 12 U), (k3, aI cI 12 V), (ts, aQ cT 6 (tq ad n))] ++ blks cI ad T (n + 2))) s.heap.size)) (XO D ([(r, oR tr ts (ad 0 0) (ad 1 0) (nI n) tick), (tr, oK KF k1 k2 k3), (k1, aI cI 12 S), (k2, aI cI 12 U), (k3, aI cI 12 V), (ts, aQ cT 6 (tq ad n))] ++ blks cI ad T (n + 2)) (fun E => rSee x y9 w S U V ns (KF 4) tick T n = .inr E) (frA (List.map Prod.fst ([(r, oR tr ts (ad 0 0) (ad 1 0) (nI n) tick), (tr, oK KF k1 k2 k3), (k1, aI cI 12 S), (k2, aI cI 12 U), (k3, aI cI 12 V), (ts, aQ cT 6 (tq ad n))] ++ blks cI ad T (n + 2))) s.heap.size)) args s 2 12 (frA (List.map Prod.fst ([(r, oR tr ts (ad 0 0) (ad 1 0) (nI n) tick), (tr, oK KF k1 k2 k3), (k1, aI cI 12 S), (k2, aI cI 12 U), (k3, aI cI 12 V), (ts, aQ cT 6 (tq ad n))] ++ blks cI ad T (n + 2))) s.heap.size)) _
  obtain ⟨A, hAe⟩ : ∃ A, A = (frA (List.map Prod.fst ([(r, oR tr ts (ad 0 0) (ad 1 0) (nI n) tick), (tr, oK KF k1 k2 k3), (k1, aI cI 12 S), (k2, aI cI 12 U), (k3, aI cI 12 V), (ts, aQ cT 6 (tq ad n))] ++ blks cI ad T (n + 2))) s.heap.size) := ⟨_, rfl⟩
  rw [← hAe]
  have hXZ : XZ A s s.heap := by rw [hAe]; exact hXZ
  obtain ⟨Q, hQ⟩ : ∃ Q, Q = vx_MQ below (va_Qi (S := Unit) (fun z _ => rSee x y9 w S U V ns (KF 4) tick T n = .inl z) (fun _ t => va_P D vwCl ([(r, oR tr ts (ad 0 0) (ad 1 0) (nI n) tick), (tr, oK KF k1 k2 k3), (k1, aI cI 12 S), (k2, aI cI 12 U), (k3, aI cI 12 V), (ts, aQ cT 6 (tq ad n))] ++ blks cI ad (cSee x y9 w S U V ns (KF 4) tick T n) (n + 2)) t.heap) A) (XO D ([(r, oR tr ts (ad 0 0) (ad 1 0) (nI n) tick), (tr, oK KF k1 k2 k3), (k1, aI cI 12 S), (k2, aI cI 12 U), (k3, aI cI 12 V), (ts, aQ cT 6 (tq ad n))] ++ blks cI ad T (n + 2)) (fun E => rSee x y9 w S U V ns (KF 4) tick T n = .inr E) A) args s 2 12 A := ⟨_, rfl⟩
  rw [← hQ]
  have hl := lv_entry [.ref r, .int x, .int y9, .int w] (n := 5) (Nat.le_of_ble_eq_true rfl)
  generalize (lg_sl [.ref r, .int x, .int y9, .int w] ++ List.replicate (5 - (lg_sl [.ref r, .int x, .int y9, .int w]).length) Slot.unset).toArray = ls at hl ⊢
  have hl : lv_has ls 5 [(0, .ref r), (1, .int x), (2, .int y9), (3, .int w)] := hl
  have hA0 : ∀ q ∈ List.map Prod.fst ([(r, oR tr ts (ad 0 0) (ad 1 0) (nI n) tick), (tr, oK KF k1 k2 k3), (k1, aI cI 12 S), (k2, aI cI 12 U), (k3, aI cI 12 V), (ts, aQ cT 6 (tq ad n))] ++ blks cI ad T (n + 2)), A q := by rw [hAe]; exact fun q h => Or.inl h
  have hA : ∀ q : Nat, s.heap.size ≤ q → A q := by rw [hAe]; exact fun q h => Or.inr h
  have hD : va_D A ([(r, oR tr ts (ad 0 0) (ad 1 0) (nI n) tick), (tr, oK KF k1 k2 k3), (k1, aI cI 12 S), (k2, aI cI 12 U), (k3, aI cI 12 V), (ts, aQ cT 6 (tq ad n))] ++ blks cI ad T (n + 2)) := sp_D (List.nodup_append.mp (show ((([(r, oR tr ts (ad 0 0) (ad 1 0) (nI n) tick), (tr, oK KF k1 k2 k3), (k1, aI cI 12 S), (k2, aI cI 12 U), (k3, aI cI 12 V), (ts, aQ cT 6 (tq ad n))] ++ blks cI ad T (n + 2)) : va_W).map Prod.fst ++ ([] : va_W).map Prod.fst).Nodup by rw [← List.map_append]; exact hN)).1 hA0
  have hN : (List.map Prod.fst (([(r, oR tr ts (ad 0 0) (ad 1 0) (nI n) tick), (tr, oK KF k1 k2 k3), (k1, aI cI 12 S), (k2, aI cI 12 U), (k3, aI cI 12 V), (ts, aQ cT 6 (tq ad n))] ++ blks cI ad T (n + 2)) ++ []) : List Nat).Nodup := hN
  have hS : va_S A s.heap s.heap [] := va_S.rf
  obtain ⟨H, hH0⟩ : ∃ H, H = s.heap := ⟨_, rfl⟩
  obtain ⟨locs, hlo⟩ : ∃ L : List Loc, L = [] := ⟨_, rfl⟩
  have hP : va_P D vwCl ([(r, oR tr ts (ad 0 0) (ad 1 0) (nI n) tick), (tr, oK KF k1 k2 k3), (k1, aI cI 12 S), (k2, aI cI 12 U), (k3, aI cI 12 V), (ts, aQ cT 6 (tq ad n))] ++ blks cI ad T (n + 2)) H := by rw [hH0]; exact hP
  have hS : va_S A s.heap H locs := by rw [hH0, hlo]; exact hS
  rw [show W p l e rmX2_foresee s m args below meth c s.heap [] 0 0 Q (F0 m 0 ls []) = W p l e rmX2_foresee s m args below meth c H locs 0 0 Q (F0 m 0 ls []) by rw [hH0, hlo]]
  clear hH0 hlo
  refine lv_aload_n hx hb dX2_foresee_0 rfl (lv_at hl 0 rfl) ?_
  refine lv_iload_n hx hb dX2_foresee_1 rfl (lv_at hl 1 rfl) ?_
  refine sp_oR (rest := []) (As := [.int x]) (W1 := ([(r, oR tr ts (ad 0 0) (ad 1 0) (nI n) tick), (tr, oK KF k1 k2 k3), (k1, aI cI 12 S), (k2, aI cI 12 U), (k3, aI cI 12 V), (ts, aQ cT 6 (tq ad n))] ++ blks cI ad T (n + 2))) (ci := 2) (w := ([(r, oR tr ts (ad 0 0) (ad 1 0) (nI n) tick), (tr, oK KF k1 k2 k3), (k1, aI cI 12 S), (k2, aI cI 12 U), (k3, aI cI 12 V), (ts, aQ cT 6 (tq ad n))] ++ blks cI ad T (n + 2))) (rs := fun E => rSee x y9 w S U V ns (KF 4) tick T n = .inr E) ⟨hx, hb, hml, hown, hts⟩ (mX2_teamNumbered l D cI cT hl9 H.size r tr k1 k2 k3 ts ad n hn tick KF S U V T x) (cwV 1 hts gX2_foresee_X2_teamNumbered rfl rfl rfl (by decide +kernel) ⟨Nat.le_of_ble_eq_true rfl, Nat.le_of_ble_eq_true rfl⟩) hK hXZ hXS hP hD hS hA (xb_fst rfl cI ad _ _ (n + 2)) rfl rfl rfl rfl hl.1 rfl (Nat.le_of_ble_eq_true rfl) dX2_foresee_2 ⟨Nat.le_of_ble_eq_true rfl, Nat.le_of_ble_eq_true rfl⟩ hex hlocks rfl (fun E hE => by obtain ⟨hin, rfl⟩ := teamR_inr hE; simp [rSee, hin]) (Nat.le_of_ble_eq_true rfl) (Nat.le_of_ble_eq_true rfl) hQ (fun ra H locs hres hP hD hS => ?_)
  obtain ⟨i, cin, rfl, rfl⟩ := teamR_inl hn hres
  have hin : isIn (nI i) 0 (nI n - 1) = true := isIn_lt (by omega) cin
  have hcl : (nI i).toNatClampNeg = i := nI_clamp (by omega)
  refine lv_astore (lv' := [(4, .ref (ad (i + 2) 0)), (0, .ref r), (1, .int (nI i)), (2, .int y9), (3, .int w)]) hx hb dX2_foresee_5 hl (by decide) rfl (fun ls hl => ?_)
  refine lv_iload_n hx hb dX2_foresee_7 rfl (lv_at hl 4 rfl) ?_
  refine lv_iconst (v := 0) hx hb dX2_foresee_8 (by decide) ?_
  refine lv_iconst (v := 2) hx hb dX2_foresee_9 (by decide) ?_
  refine sp_rS (rest := []) (As := [.int w, .int 0, .int 2]) ⟨hx, hb, hml, hown, hts⟩ (mX2_isOutside l D cI cT w 0 2) (va_cwS 3 hts gX2_foresee_X2_isOutside rfl rfl rfl (by decide +kernel) ⟨Nat.le_of_ble_eq_true rfl, Nat.le_of_ble_eq_true rfl⟩) hK (show va_P D vwCl [] _ from fun k q h => by simp at h) rfl hl.1 rfl (Nat.le_of_ble_eq_true rfl) dX2_foresee_10 ⟨Nat.le_of_ble_eq_true rfl, Nat.le_of_ble_eq_true rfl⟩ ?_
  refine sp_if_eq (tgt := 26) hx hb dX2_foresee_13 (by decide) (fun c13 => ?_) (fun c13 => ?_)
  · skip
    have c13 : isIn w 0 2 = true := isIn_not c13
    refine lv_iload_n hx hb dX2_foresee_26 rfl (lv_at hl 3 rfl) ?_
    refine lv_iconst (v := 1) hx hb dX2_foresee_27 (by decide) ?_
    refine lv_sipush (v := 400) hx hb dX2_foresee_28 (by decide) ?_
    refine sp_rS (rest := []) (As := [.int y9, .int 1, .int 400]) ⟨hx, hb, hml, hown, hts⟩ (mX2_isOutside l D cI cT y9 1 400) (va_cwS 3 hts gX2_foresee_X2_isOutside rfl rfl rfl (by decide +kernel) ⟨Nat.le_of_ble_eq_true rfl, Nat.le_of_ble_eq_true rfl⟩) hK (show va_P D vwCl [] _ from fun k q h => by simp at h) rfl hl.1 rfl (Nat.le_of_ble_eq_true rfl) dX2_foresee_31 ⟨Nat.le_of_ble_eq_true rfl, Nat.le_of_ble_eq_true rfl⟩ ?_
    refine sp_if_eq (tgt := 47) hx hb dX2_foresee_34 (by decide) (fun c34 => ?_) (fun c34 => ?_)
    · skip
      have c34 : isIn y9 1 400 = true := isIn_not c34
      obtain ⟨k9, hk91, hk92, rfl⟩ := isIn_rng (a := 1) (b := 400) (by decide) (by decide) c34
      have hck : (nI k9).toNatClampNeg = k9 := nI_clamp (by omega)
      refine lv_aload_n hx hb dX2_foresee_47 rfl (lv_at hl 1 rfl) ?_
      refine lv_aload_n hx hb dX2_foresee_48 rfl (lv_at hl 1 rfl) ?_
      refine va_get (D := D) (ci := 2) (v := .ref (ad 0 0)) (C := RX2) (T := TX2) (N := 6) hx hb hts hiX2 hown hK.1 hP 0 rfl rfl 2 (by decide) (hts (.fieldLink RX2 25 "SledgeRace" "trial" "LSledgeRace$Team;") (by decide +kernel)) (fun _ h9 => h9) rfl dX2_foresee_49 ?_
      refine lv_aload hx hb dX2_foresee_52 (lv_at hl 0 rfl) ?_
      refine lv_aload hx hb dX2_foresee_54 (lv_at hl 0 rfl) ?_
      refine va_getN (D := D) (ci := 0) (v := .int (((T (i + 2)).1) 8)) (C := RX0) (T := TX0) (N := 20) hx hb hts hiX0 hown hK.1 (blk_P hP (show i + 2 < n + 2 by omega)) 0 rfl rfl 8 (by decide) (hK.n (w := .fieldLinkNest RX2 102 "SledgeRace$Team" "effort" "I" "SledgeRace") (by decide +kernel)) (fun _ h9 => h9) rfl dX2_foresee_56 ?_
      refine lv_iload_n hx hb dX2_foresee_59 rfl (lv_at hl 3 rfl) ?_
      refine sp_wV (rest := []) (As := [.ref (ad 0 0), .ref (ad (i + 2) 0), .int (((T (i + 2)).1) 8), .int (nI k9)]) (W1 := ([(r, oR tr ts (ad 0 0) (ad 1 0) (nI n) tick), (tr, oK KF k1 k2 k3), (k1, aI cI 12 S), (k2, aI cI 12 U), (k3, aI cI 12 V), (ts, aQ cT 6 (tq ad n))] ++ blks cI ad (setT T 0 (cLook S U V ns (KF 4) tick (((T (i + 2)).1) 8) (T (i + 2)) k9)) (n + 2))) (ci := 2) ⟨hx, hb, hml, hown, hts⟩ (mX2_lookAhead l D cI cT r tr k1 k2 k3 ts ad n hn tick KF S U V T ns hns hk (0) (i + 2) k9 (by decide) (by omega) (by omega) (by omega) (hT i cin) (((T (i + 2)).1) 8)) (cwV 4 hts gX2_foresee_X2_lookAhead rfl rfl rfl (by decide +kernel) ⟨Nat.le_of_ble_eq_true rfl, Nat.le_of_ble_eq_true rfl⟩) hK hP hD hS (xb_fst rfl cI ad _ _ (n + 2)) rfl rfl rfl rfl hl.1 rfl (Nat.le_of_ble_eq_true rfl) dX2_foresee_60 ⟨Nat.le_of_ble_eq_true rfl, Nat.le_of_ble_eq_true rfl⟩ (fun H locs hP hD hS => ?_)
      have hP : va_P D vwCl ([(r, oR tr ts (ad 0 0) (ad 1 0) (nI n) tick), (tr, oK KF k1 k2 k3), (k1, aI cI 12 S), (k2, aI cI 12 U), (k3, aI cI 12 V), (ts, aQ cT 6 (tq ad n))] ++ blks cI ad (setT T 0 (cLook S U V ns (KF 4) tick (((T (i + 2)).1) 8) (T (i + 2)) k9)) (n + 2)) H := hP
      have hD : va_D A ([(r, oR tr ts (ad 0 0) (ad 1 0) (nI n) tick), (tr, oK KF k1 k2 k3), (k1, aI cI 12 S), (k2, aI cI 12 U), (k3, aI cI 12 V), (ts, aQ cT 6 (tq ad n))] ++ blks cI ad (setT T 0 (cLook S U V ns (KF 4) tick (((T (i + 2)).1) 8) (T (i + 2)) k9)) (n + 2)) := hD
      have eT : setT T 0 (cLook S U V ns (KF 4) tick (((T (i + 2)).1) 8) (T (i + 2)) k9) = cSee0 (nI i) (nI k9) S U V ns (KF 4) tick T := by unfold cSee0; rw [hcl, hck]
      have hP : va_P D vwCl ([(r, oR tr ts (ad 0 0) (ad 1 0) (nI n) tick), (tr, oK KF k1 k2 k3), (k1, aI cI 12 S), (k2, aI cI 12 U), (k3, aI cI 12 V), (ts, aQ cT 6 (tq ad n))] ++ blks cI ad (cSee0 (nI i) (nI k9) S U V ns (KF 4) tick T) (n + 2)) H := by rw [← eT]; exact hP
      have hD : va_D A ([(r, oR tr ts (ad 0 0) (ad 1 0) (nI n) tick), (tr, oK KF k1 k2 k3), (k1, aI cI 12 S), (k2, aI cI 12 U), (k3, aI cI 12 V), (ts, aQ cT 6 (tq ad n))] ++ blks cI ad (cSee0 (nI i) (nI k9) S U V ns (KF 4) tick T) (n + 2)) := by rw [← eT]; exact hD
      refine lv_iload_n hx hb dX2_foresee_63 rfl (lv_at hl 4 rfl) ?_
      refine lv_if_ne (tgt := 75) hx hb dX2_foresee_64 (by decide) (fun c64 => ?_) (fun c64 => ?_)
      · skip
        refine lv_iload_n hx hb dX2_foresee_75 rfl (lv_at hl 4 rfl) ?_
        refine lv_iconst (v := 1) hx hb dX2_foresee_76 (by decide) ?_
        refine lv_icmp_ne (tgt := 88) hx hb dX2_foresee_77 (by decide) (fun c77 => ?_) (fun c77 => ?_)
        · skip
          refine lv_aload_n hx hb dX2_foresee_88 rfl (lv_at hl 1 rfl) ?_
          refine va_get (D := D) (ci := 2) (v := .ref (ad 0 0)) (C := RX2) (T := TX2) (N := 6) hx hb hts hiX2 hown hK.1 hP 0 rfl rfl 2 (by decide) (hts (.fieldLink RX2 25 "SledgeRace" "trial" "LSledgeRace$Team;") (by decide +kernel)) (fun _ h9 => h9) rfl dX2_foresee_89 ?_
          refine va_getN (D := D) (ci := 0) (v := .int ((((cSee0 (nI i) (nI k9) S U V ns (KF 4) tick T) 0).1) 11)) (C := RX0) (T := TX0) (N := 20) hx hb hts hiX0 hown hK.1 (blk_P hP (show 0 < n + 2 by omega)) 0 rfl rfl 11 (by decide) (hK.n (w := .fieldLinkNest RX2 177 "SledgeRace$Team" "breath" "I" "SledgeRace") (by decide +kernel)) (fun _ h9 => h9) rfl dX2_foresee_92 ?_
          have hv9 : rSee (nI i) (nI k9) w S U V ns (KF 4) tick T n = .inl ((((cSee0 (nI i) (nI k9) S U V ns (KF 4) tick T) 0).1) 11) := by unfold rSee; rw [if_pos hin, if_pos c13, if_pos c34, if_neg c64, if_neg c77]
          have hP9 : va_P D vwCl ([(r, oR tr ts (ad 0 0) (ad 1 0) (nI n) tick), (tr, oK KF k1 k2 k3), (k1, aI cI 12 S), (k2, aI cI 12 U), (k3, aI cI 12 V), (ts, aQ cT 6 (tq ad n))] ++ blks cI ad (cSee (nI i) (nI k9) w S U V ns (KF 4) tick T n) (n + 2)) H := by unfold cSee; rw [if_neg c77]; exact hP
          subst hQ
          refine vx_ret (W.widen (k := 2) (n := 12) (Nat.le_of_ble_eq_true rfl) (Nat.le_of_ble_eq_true rfl) ?_)
          exact W.iret hx hb hr (fun t ht hW => ⟨⟨_, (), rfl, hv9, by show va_P D vwCl _ t.heap; rw [ht]; exact hP9⟩, hS.F ht⟩) hS.2.2 dX2_foresee_95
        · skip
          refine lv_aload_n hx hb dX2_foresee_80 rfl (lv_at hl 1 rfl) ?_
          refine lv_iload_n hx hb dX2_foresee_81 rfl (lv_at hl 3 rfl) ?_
          refine sp_wI (rest := []) (As := [.int (nI k9)]) (W1 := ([(r, oR tr ts (ad 0 0) (ad 1 0) (nI n) tick), (tr, oK KF k1 k2 k3), (k1, aI cI 12 S), (k2, aI cI 12 U), (k3, aI cI 12 V), (ts, aQ cT 6 (tq ad n))] ++ blks cI ad (setT (cSee0 (nI i) (nI k9) S U V ns (KF 4) tick T) 1 (cRiv S U V ns (KF 4) tick (cSee0 (nI i) (nI k9) S U V ns (KF 4) tick T) k9 n)) (n + 2))) (ci := 2) ⟨hx, hb, hml, hown, hts⟩ (mX2_rankOfTrialAmongRivals l D cI cT r tr k1 k2 k3 ts ad n hn tick KF S U V (cSee0 (nI i) (nI k9) S U V ns (KF 4) tick T) (by unfold cSee0; exact setT_teams (by decide) hT) ns hns hk k9 (by omega)) (cwV 1 hts gX2_foresee_X2_rankOfTrialAmongRivals rfl rfl rfl (by decide +kernel) ⟨Nat.le_of_ble_eq_true rfl, Nat.le_of_ble_eq_true rfl⟩) hK hP hD hS (xb_fst rfl cI ad _ _ (n + 2)) rfl rfl rfl rfl hl.1 rfl (Nat.le_of_ble_eq_true rfl) dX2_foresee_82 ⟨Nat.le_of_ble_eq_true rfl, Nat.le_of_ble_eq_true rfl⟩ (fun H locs hP hD hS => ?_)
          have hP : va_P D vwCl ([(r, oR tr ts (ad 0 0) (ad 1 0) (nI n) tick), (tr, oK KF k1 k2 k3), (k1, aI cI 12 S), (k2, aI cI 12 U), (k3, aI cI 12 V), (ts, aQ cT 6 (tq ad n))] ++ blks cI ad (setT (cSee0 (nI i) (nI k9) S U V ns (KF 4) tick T) 1 (cRiv S U V ns (KF 4) tick (cSee0 (nI i) (nI k9) S U V ns (KF 4) tick T) k9 n)) (n + 2)) H := hP
          have hD : va_D A ([(r, oR tr ts (ad 0 0) (ad 1 0) (nI n) tick), (tr, oK KF k1 k2 k3), (k1, aI cI 12 S), (k2, aI cI 12 U), (k3, aI cI 12 V), (ts, aQ cT 6 (tq ad n))] ++ blks cI ad (setT (cSee0 (nI i) (nI k9) S U V ns (KF 4) tick T) 1 (cRiv S U V ns (KF 4) tick (cSee0 (nI i) (nI k9) S U V ns (KF 4) tick T) k9 n)) (n + 2)) := hD
          refine lv_goto (tgt := 95) hx hb dX2_foresee_85 (by decide) ?_
          have hv9 : rSee (nI i) (nI k9) w S U V ns (KF 4) tick T n = .inl (nI (cRivals S U V ns (KF 4) tick (cSee0 (nI i) (nI k9) S U V ns (KF 4) tick T) ((cSee0 (nI i) (nI k9) S U V ns (KF 4) tick T) 0).1 k9 n)) := by unfold rSee; rw [if_pos hin, if_pos c13, if_pos c34, if_neg c64, if_pos c77, hck]
          have hP9 : va_P D vwCl ([(r, oR tr ts (ad 0 0) (ad 1 0) (nI n) tick), (tr, oK KF k1 k2 k3), (k1, aI cI 12 S), (k2, aI cI 12 U), (k3, aI cI 12 V), (ts, aQ cT 6 (tq ad n))] ++ blks cI ad (cSee (nI i) (nI k9) w S U V ns (KF 4) tick T n) (n + 2)) H := by unfold cSee; rw [hck, if_pos c77]; exact hP
          subst hQ
          refine vx_ret (W.widen (k := 2) (n := 12) (Nat.le_of_ble_eq_true rfl) (Nat.le_of_ble_eq_true rfl) ?_)
          exact W.iret hx hb hr (fun t ht hW => ⟨⟨_, (), rfl, hv9, by show va_P D vwCl _ t.heap; rw [ht]; exact hP9⟩, hS.F ht⟩) hS.2.2 dX2_foresee_95
      · skip
        refine lv_aload_n hx hb dX2_foresee_67 rfl (lv_at hl 1 rfl) ?_
        refine va_get (D := D) (ci := 2) (v := .ref (ad 0 0)) (C := RX2) (T := TX2) (N := 6) hx hb hts hiX2 hown hK.1 hP 0 rfl rfl 2 (by decide) (hts (.fieldLink RX2 25 "SledgeRace" "trial" "LSledgeRace$Team;") (by decide +kernel)) (fun _ h9 => h9) rfl dX2_foresee_68 ?_
        refine va_getN (D := D) (ci := 0) (v := .int ((((cSee0 (nI i) (nI k9) S U V ns (KF 4) tick T) 0).1) 10)) (C := RX0) (T := TX0) (N := 20) hx hb hts hiX0 hown hK.1 (blk_P hP (show 0 < n + 2 by omega)) 0 rfl rfl 10 (by decide) (hK.n (w := .fieldLinkNest RX2 171 "SledgeRace$Team" "front" "I" "SledgeRace") (by decide +kernel)) (fun _ h9 => h9) rfl dX2_foresee_71 ?_
        have hv9 : rSee (nI i) (nI k9) w S U V ns (KF 4) tick T n = .inl ((((cSee0 (nI i) (nI k9) S U V ns (KF 4) tick T) 0).1) 10) := by unfold rSee; rw [if_pos hin, if_pos c13, if_pos c34, if_pos c64]
        have hP9 : va_P D vwCl ([(r, oR tr ts (ad 0 0) (ad 1 0) (nI n) tick), (tr, oK KF k1 k2 k3), (k1, aI cI 12 S), (k2, aI cI 12 U), (k3, aI cI 12 V), (ts, aQ cT 6 (tq ad n))] ++ blks cI ad (cSee (nI i) (nI k9) w S U V ns (KF 4) tick T n) (n + 2)) H := by unfold cSee; rw [if_neg (by rw [c64]; decide)]; exact hP
        subst hQ
        refine vx_ret (W.widen (k := 2) (n := 12) (Nat.le_of_ble_eq_true rfl) (Nat.le_of_ble_eq_true rfl) ?_)
        exact W.iret hx hb hr (fun t ht hW => ⟨⟨_, (), rfl, hv9, by show va_P D vwCl _ t.heap; rw [ht]; exact hP9⟩, hS.F ht⟩) hS.2.2 dX2_foresee_74
    · skip
      have c34 : isIn y9 1 400 = false := isIn_not c34
      subst hQ
      exact sp_throw (cls := xIAE) (text := "ticks is not 1 to 400") (w := ([(r, oR tr ts (ad 0 0) (ad 1 0) (nI n) tick), (tr, oK KF k1 k2 k3), (k1, aI cI 12 S), (k2, aI cI 12 U), (k3, aI cI 12 V), (ts, aQ cT 6 (tq ad n))] ++ blks cI ad T (n + 2))) (res := fun E => rSee (nI i) y9 w S U V ns (KF 4) tick T n = .inr E) hx hb hl9 hown sp_fit1 sp_fits (by decide) (hts (.classLink RX2 43 xIAE) (by decide +kernel)) (hts (.initialized xIAE) (by decide +kernel)) hXS.2.1 (fun w hw => hts w (by first | exact List.mem_cons_of_mem _ (List.mem_append_right _ hw) | exact List.mem_cons_of_mem _ (List.mem_append_left _ (List.mem_append_right _ hw)) | exact List.mem_cons_of_mem _ (List.mem_append_left _ (List.mem_append_left _ (List.mem_append_right _ hw))))) sp_ng1 sp_gw1 hXZ hXS hS hP (hl.1.trans hml.symm) dX2_foresee_37 dX2_foresee_40 dX2_foresee_41 dX2_foresee_43 dX2_foresee_46 hex (Nat.le_of_ble_eq_true rfl) (Nat.le_of_ble_eq_true rfl) (Nat.le_of_ble_eq_true rfl) (Nat.le_of_ble_eq_true rfl) hlocks (Nat.le_of_ble_eq_true rfl) (Nat.le_of_ble_eq_true rfl) (show rSee (nI i) y9 w S U V ns (KF 4) tick T n = .inr xIAE from by simp [rSee, c13, c34, hin, hcl])
  · skip
    have c13 : isIn w 0 2 = false := isIn_not c13
    subst hQ
    exact sp_throw (cls := xIOB) (text := "what is not 0 to 2") (w := ([(r, oR tr ts (ad 0 0) (ad 1 0) (nI n) tick), (tr, oK KF k1 k2 k3), (k1, aI cI 12 S), (k2, aI cI 12 U), (k3, aI cI 12 V), (ts, aQ cT 6 (tq ad n))] ++ blks cI ad T (n + 2))) (res := fun E => rSee (nI i) y9 w S U V ns (KF 4) tick T n = .inr E) hx hb hl9 hown sp_fit3 sp_fits (by decide) (hts (.classLink RX2 122 xIOB) (by decide +kernel)) (hts (.initialized xIOB) (by decide +kernel)) hXS.2.2.2.1 (fun w hw => hts w (by first | exact List.mem_cons_of_mem _ (List.mem_append_right _ hw) | exact List.mem_cons_of_mem _ (List.mem_append_left _ (List.mem_append_right _ hw)) | exact List.mem_cons_of_mem _ (List.mem_append_left _ (List.mem_append_left _ (List.mem_append_right _ hw))))) sp_ng3 sp_gw3 hXZ hXS hS hP (hl.1.trans hml.symm) dX2_foresee_16 dX2_foresee_19 dX2_foresee_20 dX2_foresee_22 dX2_foresee_25 hex (Nat.le_of_ble_eq_true rfl) (Nat.le_of_ble_eq_true rfl) (Nat.le_of_ble_eq_true rfl) (Nat.le_of_ble_eq_true rfl) hlocks (Nat.le_of_ble_eq_true rfl) (Nat.le_of_ble_eq_true rfl) (show rSee (nI i) y9 w S U V ns (KF 4) tick T n = .inr xIOB from by simp [rSee, c13, hin, hcl])

