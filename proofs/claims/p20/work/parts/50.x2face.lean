abbrev rmX2_setLength : Room := { frames := 7, cells := 1, slots := 6, locals := 102 }
set_option maxHeartbeats 4000000 in
set_option maxRecDepth 100000 in
/-- setLength -/
theorem mX2_setLength (l : Launch) (D : va_G) (cI cT : ClassId) (hl9 : l.stackTraces = false) (sz : Nat) (r tr k1 k2 k3 ts : Nat) (ad : Nat → Nat → Nat) (n : Nat) (hn : n ≤ 6) (tick : Int32) (KF S U V : Nat → Int32) (T : Nat → TV) (x : Int32) : MetO l D cI cT yX2_setLength wsX2_setLength rmX2_setLength [.ref r, .int x] ([(r, oR tr ts (ad 0 0) (ad 1 0) (nI n) tick), (tr, oK KF k1 k2 k3), (k1, aI cI 12 S), (k2, aI cI 12 U), (k3, aI cI 12 V), (ts, aQ cT 6 (tq ad n))] ++ blks cI ad T (n + 2)) ([(r, oR tr ts (ad 0 0) (ad 1 0) (nI n) tick), (tr, oK (upd KF 4 x) k1 k2 k3), (k1, aI cI 12 S), (k2, aI cI 12 U), (k3, aI cI 12 V), (ts, aQ cT 6 (tq ad n))] ++ blks cI ad T (n + 2)) (rLen x KF tick) 1 6 sz := by
  refine vx_ofW (cc := cX2_setLength) (maxL := 3) (ret := (some .int)) (by decide) rfl ?_
  intro p e s m args below meth c s₁ B hml hex hv
  obtain ⟨⟨hargs, hsz, hP, hR0, hK, hN⟩, hXZ, hXS⟩ := hv
  subst hsz
  have hAO := hXS.2.2.2.2.1
  have hx := B.exec
  have hb := B.bytes
  have hr := B.returns
  have hts := atoms_spec (ws := wsX2_setLength) B.pre
  have hown : s.vm.findClass RX2 = some m.cls := findClass_of_methodNamed B.named
  have hlocks := B.notSynchronized
  have hiX1 : ∀ w ∈ u_ws RX1 TX1 5, w ∈ wsX2_setLength := by decide +kernel
  have hiX2 : ∀ w ∈ u_ws RX2 TX2 6, w ∈ wsX2_setLength := by decide +kernel
  have he : entryFrame m args 3 = F0 m 0 ((lg_sl [.ref r, .int x] ++ List.replicate (3 - (lg_sl [.ref r, .int x]).length) Slot.unset).toArray) [] := by rw [hargs]; exact lg_entry_eq m _ _
  rw [he]
  change W p l e rmX2_setLength s m args below meth c s.heap [] 0 0 (vx_MQ below (va_Qi (S := Unit) (fun z _ => rLen x KF tick = .inl z) (fun _ t => va_P D vwCl ([(r, oR tr ts (ad 0 0) (ad 1 0) (nI n) tick), (tr, oK (upd KF 4 x) k1 k2 k3), (k1, aI cI 12 S), (k2, aI cI 12 U), (k3, aI cI 12 V), (ts, aQ cT 6 (tq ad n))] ++ blks cI ad T (n + 2)) t.heap) (frA (List.map Prod.fst ([(r, oR tr ts (ad 0 0) (ad 1 0) (nI n) tick), (tr, oK KF k1 k2 k3), (k1, aI cI 12 S), (k2, aI cI 12 U), (k3, aI cI 12 V), (ts, aQ cT 6 (tq ad n))] ++ blks cI ad T (n + 2))) s.heap.size)) (XO D ([(r, oR tr ts (ad 0 0) (ad 1 0) (nI n) tick), (tr, oK KF k1 k2 k3), (k1, aI cI 12 S), (k2, aI cI 12 U), (k3, aI cI 12 V), (ts, aQ cT 6 (tq ad n))] ++ blks cI ad T (n + 2)) (fun E => rLen x KF tick = .inr E) (frA (List.map Prod.fst ([(r, oR tr ts (ad 0 0) (ad 1 0) (nI n) tick), (tr, oK KF k1 k2 k3), (k1, aI cI 12 S), (k2, aI cI 12 U), (k3, aI cI 12 V), (ts, aQ cT 6 (tq ad n))] ++ blks cI ad T (n + 2))) s.heap.size)) args s 1 6 (frA (List.map Prod.fst ([(r, oR tr ts (ad 0 0) (ad 1 0) (nI n) tick), (tr, oK KF k1 k2 k3), (k1, aI cI 12 S), (k2, aI cI 12 U), (k3, aI cI 12 V), (ts, aQ cT 6 (tq ad n))] ++ blks cI ad T (n + 2))) s.heap.size)) _
  obtain ⟨A, hAe⟩ : ∃ A, A = (frA (List.map Prod.fst ([(r, oR tr ts (ad 0 0) (ad 1 0) (nI n) tick), (tr, oK KF k1 k2 k3), (k1, aI cI 12 S), (k2, aI cI 12 U), (k3, aI cI 12 V), (ts, aQ cT 6 (tq ad n))] ++ blks cI ad T (n + 2))) s.heap.size) := ⟨_, rfl⟩
  rw [← hAe]
  have hXZ : XZ A s s.heap := by rw [hAe]; exact hXZ
  obtain ⟨Q, hQ⟩ : ∃ Q, Q = vx_MQ below (va_Qi (S := Unit) (fun z _ => rLen x KF tick = .inl z) (fun _ t => va_P D vwCl ([(r, oR tr ts (ad 0 0) (ad 1 0) (nI n) tick), (tr, oK (upd KF 4 x) k1 k2 k3), (k1, aI cI 12 S), (k2, aI cI 12 U), (k3, aI cI 12 V), (ts, aQ cT 6 (tq ad n))] ++ blks cI ad T (n + 2)) t.heap) A) (XO D ([(r, oR tr ts (ad 0 0) (ad 1 0) (nI n) tick), (tr, oK KF k1 k2 k3), (k1, aI cI 12 S), (k2, aI cI 12 U), (k3, aI cI 12 V), (ts, aQ cT 6 (tq ad n))] ++ blks cI ad T (n + 2)) (fun E => rLen x KF tick = .inr E) A) args s 1 6 A := ⟨_, rfl⟩
  rw [← hQ]
  have hl := lv_entry [.ref r, .int x] (n := 3) (Nat.le_of_ble_eq_true rfl)
  generalize (lg_sl [.ref r, .int x] ++ List.replicate (3 - (lg_sl [.ref r, .int x]).length) Slot.unset).toArray = ls at hl ⊢
  have hl : lv_has ls 3 [(0, .ref r), (1, .int x)] := hl
  have hA0 : ∀ q ∈ List.map Prod.fst ([(r, oR tr ts (ad 0 0) (ad 1 0) (nI n) tick), (tr, oK KF k1 k2 k3), (k1, aI cI 12 S), (k2, aI cI 12 U), (k3, aI cI 12 V), (ts, aQ cT 6 (tq ad n))] ++ blks cI ad T (n + 2)), A q := by rw [hAe]; exact fun q h => Or.inl h
  have hA : ∀ q : Nat, s.heap.size ≤ q → A q := by rw [hAe]; exact fun q h => Or.inr h
  have hD : va_D A ([(r, oR tr ts (ad 0 0) (ad 1 0) (nI n) tick), (tr, oK KF k1 k2 k3), (k1, aI cI 12 S), (k2, aI cI 12 U), (k3, aI cI 12 V), (ts, aQ cT 6 (tq ad n))] ++ blks cI ad T (n + 2)) := sp_D (List.nodup_append.mp (show ((([(r, oR tr ts (ad 0 0) (ad 1 0) (nI n) tick), (tr, oK KF k1 k2 k3), (k1, aI cI 12 S), (k2, aI cI 12 U), (k3, aI cI 12 V), (ts, aQ cT 6 (tq ad n))] ++ blks cI ad T (n + 2)) : va_W).map Prod.fst ++ ([] : va_W).map Prod.fst).Nodup by rw [← List.map_append]; exact hN)).1 hA0
  have hN : (List.map Prod.fst (([(r, oR tr ts (ad 0 0) (ad 1 0) (nI n) tick), (tr, oK KF k1 k2 k3), (k1, aI cI 12 S), (k2, aI cI 12 U), (k3, aI cI 12 V), (ts, aQ cT 6 (tq ad n))] ++ blks cI ad T (n + 2)) ++ []) : List Nat).Nodup := hN
  have hS : va_S A s.heap s.heap [] := va_S.rf
  obtain ⟨H, hH0⟩ : ∃ H, H = s.heap := ⟨_, rfl⟩
  obtain ⟨locs, hlo⟩ : ∃ L : List Loc, L = [] := ⟨_, rfl⟩
  have hP : va_P D vwCl ([(r, oR tr ts (ad 0 0) (ad 1 0) (nI n) tick), (tr, oK KF k1 k2 k3), (k1, aI cI 12 S), (k2, aI cI 12 U), (k3, aI cI 12 V), (ts, aQ cT 6 (tq ad n))] ++ blks cI ad T (n + 2)) H := by rw [hH0]; exact hP
  have hS : va_S A s.heap H locs := by rw [hH0, hlo]; exact hS
  rw [show W p l e rmX2_setLength s m args below meth c s.heap [] 0 0 Q (F0 m 0 ls []) = W p l e rmX2_setLength s m args below meth c H locs 0 0 Q (F0 m 0 ls []) by rw [hH0, hlo]]
  clear hH0 hlo
  refine lv_iload_n hx hb dX2_setLength_0 rfl (lv_at hl 1 rfl) ?_
  refine lv_bipush (v := 100) hx hb dX2_setLength_1 (by decide) ?_
  refine lv_sipush (v := 2000) hx hb dX2_setLength_3 (by decide) ?_
  refine sp_rS (rest := []) (As := [.int x, .int 100, .int 2000]) ⟨hx, hb, hml, hown, hts⟩ (mX2_isOutside l D cI cT x 100 2000) (va_cwS 3 hts gX2_setLength_X2_isOutside rfl rfl rfl (by decide +kernel) ⟨Nat.le_of_ble_eq_true rfl, Nat.le_of_ble_eq_true rfl⟩) hK (show va_P D vwCl [] _ from fun k q h => by simp at h) rfl hl.1 rfl (Nat.le_of_ble_eq_true rfl) dX2_setLength_6 ⟨Nat.le_of_ble_eq_true rfl, Nat.le_of_ble_eq_true rfl⟩ ?_
  refine sp_if_eq (tgt := 22) hx hb dX2_setLength_9 (by decide) (fun c9 => ?_) (fun c9 => ?_)
  · skip
    have c9 : isIn x 100 2000 = true := isIn_not c9
    refine lv_aload_n hx hb dX2_setLength_22 rfl (lv_at hl 0 rfl) ?_
    refine sp_oV (rest := []) (As := []) (W1 := ([(r, oR tr ts (ad 0 0) (ad 1 0) (nI n) tick), (tr, oK KF k1 k2 k3), (k1, aI cI 12 S), (k2, aI cI 12 U), (k3, aI cI 12 V), (ts, aQ cT 6 (tq ad n))] ++ blks cI ad T (n + 2))) (ci := 2) (w := ([(r, oR tr ts (ad 0 0) (ad 1 0) (nI n) tick), (tr, oK KF k1 k2 k3), (k1, aI cI 12 S), (k2, aI cI 12 U), (k3, aI cI 12 V), (ts, aQ cT 6 (tq ad n))] ++ blks cI ad T (n + 2))) (rs := fun E => rLen x KF tick = .inr E) ⟨hx, hb, hml, hown, hts⟩ (mX2_requireStart l D cI cT hl9 H.size r tr k1 k2 k3 ts ad n hn tick KF S U V T) (cwV 0 hts gX2_setLength_X2_requireStart rfl rfl rfl (by decide +kernel) ⟨Nat.le_of_ble_eq_true rfl, Nat.le_of_ble_eq_true rfl⟩) hK hXZ hXS hP hD hS hA (xb_fst rfl cI ad _ _ (n + 2)) rfl rfl rfl rfl hl.1 rfl (Nat.le_of_ble_eq_true rfl) dX2_setLength_23 ⟨Nat.le_of_ble_eq_true rfl, Nat.le_of_ble_eq_true rfl⟩ hex hlocks rfl (fun E hE => by obtain ⟨ht, rfl⟩ := startR_some hE; simp [rLen, c9, ht]) (Nat.le_of_ble_eq_true rfl) (Nat.le_of_ble_eq_true rfl) hQ (fun H locs hres hP hD hS => ?_)
    have ht := startR_none hres
    refine lv_aload_n hx hb dX2_setLength_26 rfl (lv_at hl 0 rfl) ?_
    refine va_get (D := D) (ci := 2) (v := .ref tr) (C := RX2) (T := TX2) (N := 6) hx hb hts hiX2 hown hK.1 hP 0 rfl rfl 0 (by decide) (hts (.fieldLink RX2 10 "SledgeRace" "track" "LSledgeRace$Track;") (by decide +kernel)) (fun _ h9 => h9) rfl dX2_setLength_27 ?_
    refine va_getN (D := D) (ci := 1) (v := .int (KF 4)) (C := RX1) (T := TX1) (N := 5) hx hb hts hiX1 hown hK.1 hP 1 rfl rfl 4 (by decide) (hK.n (w := .fieldLinkNest RX2 53 "SledgeRace$Track" "length" "I" "SledgeRace") (by decide +kernel)) (fun _ h9 => h9) rfl dX2_setLength_30 ?_
    refine lv_istore_n (lv' := [(2, .int (KF 4)), (0, .ref r), (1, .int x)]) hx hb dX2_setLength_33 rfl hl (by decide) rfl (fun ls hl => ?_)
    refine lv_aload_n hx hb dX2_setLength_34 rfl (lv_at hl 1 rfl) ?_
    refine va_get (D := D) (ci := 2) (v := .ref tr) (C := RX2) (T := TX2) (N := 6) hx hb hts hiX2 hown hK.1 hP 0 rfl rfl 0 (by decide) (hts (.fieldLink RX2 10 "SledgeRace" "track" "LSledgeRace$Track;") (by decide +kernel)) (fun _ h9 => h9) rfl dX2_setLength_35 ?_
    refine lv_iload_n hx hb dX2_setLength_38 rfl (lv_at hl 2 rfl) ?_
    refine va_putN (D := D) (ci := 1) (v := .int x) (ty := .int) (C := RX1) (T := TX1) (N := 5) hx hb hts hiX1 tyX1 tyX1_ok nmX1 hown hK.1 hP hD hS 1 rfl rfl 4 (by decide) (hK.n (w := .fieldLinkNest RX2 53 "SledgeRace$Track" "length" "I" "SledgeRace") (by decide +kernel)) (fun _ h9 => h9) rfl (by decide +kernel) rfl rfl (Nat.le_of_ble_eq_true rfl) dX2_setLength_39 (fun H locs hP hD hS => ?_)
    have hP : va_P D vwCl ([(r, oR tr ts (ad 0 0) (ad 1 0) (nI n) tick), (tr, oK (upd KF 4 x) k1 k2 k3), (k1, aI cI 12 S), (k2, aI cI 12 U), (k3, aI cI 12 V), (ts, aQ cT 6 (tq ad n))] ++ blks cI ad T (n + 2)) H := hP
    have hD : va_D A ([(r, oR tr ts (ad 0 0) (ad 1 0) (nI n) tick), (tr, oK (upd KF 4 x) k1 k2 k3), (k1, aI cI 12 S), (k2, aI cI 12 U), (k3, aI cI 12 V), (ts, aQ cT 6 (tq ad n))] ++ blks cI ad T (n + 2)) := hD
    refine lv_iload_n hx hb dX2_setLength_42 rfl (lv_at hl 0 rfl) ?_
    have hv9 : rLen x KF tick = .inl (KF 4) := by simp [rLen, c9, ht]
    have hP9 : va_P D vwCl ([(r, oR tr ts (ad 0 0) (ad 1 0) (nI n) tick), (tr, oK (upd KF 4 x) k1 k2 k3), (k1, aI cI 12 S), (k2, aI cI 12 U), (k3, aI cI 12 V), (ts, aQ cT 6 (tq ad n))] ++ blks cI ad T (n + 2)) H := hP
    subst hQ
    refine vx_ret (W.widen (k := 1) (n := 6) (Nat.le_of_ble_eq_true rfl) (Nat.le_of_ble_eq_true rfl) ?_)
    exact W.iret hx hb hr (fun t ht hW => ⟨⟨_, (), rfl, hv9, by show va_P D vwCl _ t.heap; rw [ht]; exact hP9⟩, hS.F ht⟩) hS.2.2 dX2_setLength_43
  · skip
    have c9 : isIn x 100 2000 = false := isIn_not c9
    subst hQ
    exact sp_throw (cls := xIAE) (text := "length is not 100 to 2000") (w := ([(r, oR tr ts (ad 0 0) (ad 1 0) (nI n) tick), (tr, oK KF k1 k2 k3), (k1, aI cI 12 S), (k2, aI cI 12 U), (k3, aI cI 12 V), (ts, aQ cT 6 (tq ad n))] ++ blks cI ad T (n + 2))) (res := fun E => rLen x KF tick = .inr E) hx hb hl9 hown sp_fit1 sp_fits (by decide) (hts (.classLink RX2 43 xIAE) (by decide +kernel)) (hts (.initialized xIAE) (by decide +kernel)) hXS.2.1 (fun w hw => hts w (by first | exact List.mem_cons_of_mem _ (List.mem_append_right _ hw) | exact List.mem_cons_of_mem _ (List.mem_append_left _ (List.mem_append_right _ hw)) | exact List.mem_cons_of_mem _ (List.mem_append_left _ (List.mem_append_left _ (List.mem_append_right _ hw))))) sp_ng1 sp_gw1 hXZ hXS hS hP (hl.1.trans hml.symm) dX2_setLength_12 dX2_setLength_15 dX2_setLength_16 dX2_setLength_18 dX2_setLength_21 hex (Nat.le_of_ble_eq_true rfl) (Nat.le_of_ble_eq_true rfl) (Nat.le_of_ble_eq_true rfl) (Nat.le_of_ble_eq_true rfl) hlocks (Nat.le_of_ble_eq_true rfl) (Nat.le_of_ble_eq_true rfl) (show rLen x KF tick = .inr xIAE from by simp [rLen, c9])

abbrev rmX2_lay : Room := { frames := 6, cells := 1, slots := 6, locals := 82 }
set_option maxHeartbeats 4000000 in
set_option maxRecDepth 100000 in
/-- lay -/
theorem mX2_lay (l : Launch) (D : va_G) (cI cT : ClassId) (hl9 : l.stackTraces = false) (sz : Nat) (r tr k1 k2 k3 ts : Nat) (ad : Nat → Nat → Nat) (n : Nat) (hn : n ≤ 6) (tick : Int32) (KF S U V : Nat → Int32) (T : Nat → TV) (ns : Nat) (hns : ns ≤ 12) (hk : KF 3 = nI ns) (x a b : Int32) : MetO l D cI cT yX2_lay wsX2_lay rmX2_lay [.ref r, .int x, .int a, .int b] ([(r, oR tr ts (ad 0 0) (ad 1 0) (nI n) tick), (tr, oK KF k1 k2 k3), (k1, aI cI 12 S), (k2, aI cI 12 U), (k3, aI cI 12 V), (ts, aQ cT 6 (tq ad n))] ++ blks cI ad T (n + 2)) ([(r, oR tr ts (ad 0 0) (ad 1 0) (nI n) tick), (tr, oK (cPutK S ns x KF) k1 k2 k3), (k1, aI cI 12 (cPut S ns x S x)), (k2, aI cI 12 (cPut S ns x U a)), (k3, aI cI 12 (cPut S ns x V b)), (ts, aQ cT 6 (tq ad n))] ++ blks cI ad T (n + 2)) (rLay x a b KF S ns) 1 6 sz := by
  refine vx_ofW (cc := cX2_lay) (maxL := 4) (ret := (some .int)) (by decide) rfl ?_
  intro p e s m args below meth c s₁ B hml hex hv
  obtain ⟨⟨hargs, hsz, hP, hR0, hK, hN⟩, hXZ, hXS⟩ := hv
  subst hsz
  have hAO := hXS.2.2.2.2.1
  have hx := B.exec
  have hb := B.bytes
  have hr := B.returns
  have hts := atoms_spec (ws := wsX2_lay) B.pre
  have hown : s.vm.findClass RX2 = some m.cls := findClass_of_methodNamed B.named
  have hlocks := B.notSynchronized
  have hiX1 : ∀ w ∈ u_ws RX1 TX1 5, w ∈ wsX2_lay := by decide +kernel
  have hiX2 : ∀ w ∈ u_ws RX2 TX2 6, w ∈ wsX2_lay := by decide +kernel
  have he : entryFrame m args 4 = F0 m 0 ((lg_sl [.ref r, .int x, .int a, .int b] ++ List.replicate (4 - (lg_sl [.ref r, .int x, .int a, .int b]).length) Slot.unset).toArray) [] := by rw [hargs]; exact lg_entry_eq m _ _
  rw [he]
  change W p l e rmX2_lay s m args below meth c s.heap [] 0 0 (vx_MQ below (va_Qi (S := Unit) (fun z _ => rLay x a b KF S ns = .inl z) (fun _ t => va_P D vwCl ([(r, oR tr ts (ad 0 0) (ad 1 0) (nI n) tick), (tr, oK (cPutK S ns x KF) k1 k2 k3), (k1, aI cI 12 (cPut S ns x S x)), (k2, aI cI 12 (cPut S ns x U a)), (k3, aI cI 12 (cPut S ns x V b)), (ts, aQ cT 6 (tq ad n))] ++ blks cI ad T (n + 2)) t.heap) (frA (List.map Prod.fst ([(r, oR tr ts (ad 0 0) (ad 1 0) (nI n) tick), (tr, oK KF k1 k2 k3), (k1, aI cI 12 S), (k2, aI cI 12 U), (k3, aI cI 12 V), (ts, aQ cT 6 (tq ad n))] ++ blks cI ad T (n + 2))) s.heap.size)) (XO D ([(r, oR tr ts (ad 0 0) (ad 1 0) (nI n) tick), (tr, oK KF k1 k2 k3), (k1, aI cI 12 S), (k2, aI cI 12 U), (k3, aI cI 12 V), (ts, aQ cT 6 (tq ad n))] ++ blks cI ad T (n + 2)) (fun E => rLay x a b KF S ns = .inr E) (frA (List.map Prod.fst ([(r, oR tr ts (ad 0 0) (ad 1 0) (nI n) tick), (tr, oK KF k1 k2 k3), (k1, aI cI 12 S), (k2, aI cI 12 U), (k3, aI cI 12 V), (ts, aQ cT 6 (tq ad n))] ++ blks cI ad T (n + 2))) s.heap.size)) args s 1 6 (frA (List.map Prod.fst ([(r, oR tr ts (ad 0 0) (ad 1 0) (nI n) tick), (tr, oK KF k1 k2 k3), (k1, aI cI 12 S), (k2, aI cI 12 U), (k3, aI cI 12 V), (ts, aQ cT 6 (tq ad n))] ++ blks cI ad T (n + 2))) s.heap.size)) _
  obtain ⟨A, hAe⟩ : ∃ A, A = (frA (List.map Prod.fst ([(r, oR tr ts (ad 0 0) (ad 1 0) (nI n) tick), (tr, oK KF k1 k2 k3), (k1, aI cI 12 S), (k2, aI cI 12 U), (k3, aI cI 12 V), (ts, aQ cT 6 (tq ad n))] ++ blks cI ad T (n + 2))) s.heap.size) := ⟨_, rfl⟩
  rw [← hAe]
  have hXZ : XZ A s s.heap := by rw [hAe]; exact hXZ
  obtain ⟨Q, hQ⟩ : ∃ Q, Q = vx_MQ below (va_Qi (S := Unit) (fun z _ => rLay x a b KF S ns = .inl z) (fun _ t => va_P D vwCl ([(r, oR tr ts (ad 0 0) (ad 1 0) (nI n) tick), (tr, oK (cPutK S ns x KF) k1 k2 k3), (k1, aI cI 12 (cPut S ns x S x)), (k2, aI cI 12 (cPut S ns x U a)), (k3, aI cI 12 (cPut S ns x V b)), (ts, aQ cT 6 (tq ad n))] ++ blks cI ad T (n + 2)) t.heap) A) (XO D ([(r, oR tr ts (ad 0 0) (ad 1 0) (nI n) tick), (tr, oK KF k1 k2 k3), (k1, aI cI 12 S), (k2, aI cI 12 U), (k3, aI cI 12 V), (ts, aQ cT 6 (tq ad n))] ++ blks cI ad T (n + 2)) (fun E => rLay x a b KF S ns = .inr E) A) args s 1 6 A := ⟨_, rfl⟩
  rw [← hQ]
  have hl := lv_entry [.ref r, .int x, .int a, .int b] (n := 4) (Nat.le_of_ble_eq_true rfl)
  generalize (lg_sl [.ref r, .int x, .int a, .int b] ++ List.replicate (4 - (lg_sl [.ref r, .int x, .int a, .int b]).length) Slot.unset).toArray = ls at hl ⊢
  have hl : lv_has ls 4 [(0, .ref r), (1, .int x), (2, .int a), (3, .int b)] := hl
  have hA0 : ∀ q ∈ List.map Prod.fst ([(r, oR tr ts (ad 0 0) (ad 1 0) (nI n) tick), (tr, oK KF k1 k2 k3), (k1, aI cI 12 S), (k2, aI cI 12 U), (k3, aI cI 12 V), (ts, aQ cT 6 (tq ad n))] ++ blks cI ad T (n + 2)), A q := by rw [hAe]; exact fun q h => Or.inl h
  have hA : ∀ q : Nat, s.heap.size ≤ q → A q := by rw [hAe]; exact fun q h => Or.inr h
  have hD : va_D A ([(r, oR tr ts (ad 0 0) (ad 1 0) (nI n) tick), (tr, oK KF k1 k2 k3), (k1, aI cI 12 S), (k2, aI cI 12 U), (k3, aI cI 12 V), (ts, aQ cT 6 (tq ad n))] ++ blks cI ad T (n + 2)) := sp_D (List.nodup_append.mp (show ((([(r, oR tr ts (ad 0 0) (ad 1 0) (nI n) tick), (tr, oK KF k1 k2 k3), (k1, aI cI 12 S), (k2, aI cI 12 U), (k3, aI cI 12 V), (ts, aQ cT 6 (tq ad n))] ++ blks cI ad T (n + 2)) : va_W).map Prod.fst ++ ([] : va_W).map Prod.fst).Nodup by rw [← List.map_append]; exact hN)).1 hA0
  have hN : (List.map Prod.fst (([(r, oR tr ts (ad 0 0) (ad 1 0) (nI n) tick), (tr, oK KF k1 k2 k3), (k1, aI cI 12 S), (k2, aI cI 12 U), (k3, aI cI 12 V), (ts, aQ cT 6 (tq ad n))] ++ blks cI ad T (n + 2)) ++ []) : List Nat).Nodup := hN
  have hS : va_S A s.heap s.heap [] := va_S.rf
  obtain ⟨H, hH0⟩ : ∃ H, H = s.heap := ⟨_, rfl⟩
  obtain ⟨locs, hlo⟩ : ∃ L : List Loc, L = [] := ⟨_, rfl⟩
  have hP : va_P D vwCl ([(r, oR tr ts (ad 0 0) (ad 1 0) (nI n) tick), (tr, oK KF k1 k2 k3), (k1, aI cI 12 S), (k2, aI cI 12 U), (k3, aI cI 12 V), (ts, aQ cT 6 (tq ad n))] ++ blks cI ad T (n + 2)) H := by rw [hH0]; exact hP
  have hS : va_S A s.heap H locs := by rw [hH0, hlo]; exact hS
  rw [show W p l e rmX2_lay s m args below meth c s.heap [] 0 0 Q (F0 m 0 ls []) = W p l e rmX2_lay s m args below meth c H locs 0 0 Q (F0 m 0 ls []) by rw [hH0, hlo]]
  clear hH0 hlo
  refine lv_iload_n hx hb dX2_lay_0 rfl (lv_at hl 1 rfl) ?_
  refine lv_iconst (v := 0) hx hb dX2_lay_1 (by decide) ?_
  refine lv_sipush (v := 1999) hx hb dX2_lay_2 (by decide) ?_
  refine sp_rS (rest := []) (As := [.int x, .int 0, .int 1999]) ⟨hx, hb, hml, hown, hts⟩ (mX2_isOutside l D cI cT x 0 1999) (va_cwS 3 hts gX2_lay_X2_isOutside rfl rfl rfl (by decide +kernel) ⟨Nat.le_of_ble_eq_true rfl, Nat.le_of_ble_eq_true rfl⟩) hK (show va_P D vwCl [] _ from fun k q h => by simp at h) rfl hl.1 rfl (Nat.le_of_ble_eq_true rfl) dX2_lay_5 ⟨Nat.le_of_ble_eq_true rfl, Nat.le_of_ble_eq_true rfl⟩ ?_
  refine sp_if_ne (tgt := 31) hx hb dX2_lay_8 (by decide) (fun c8 => ?_) (fun c8 => ?_)
  · skip
    have c8 : isIn x 0 1999 = false := isIn_not c8
    subst hQ
    exact sp_throw (cls := xIAE) (text := "no such stretch can be laid") (w := ([(r, oR tr ts (ad 0 0) (ad 1 0) (nI n) tick), (tr, oK KF k1 k2 k3), (k1, aI cI 12 S), (k2, aI cI 12 U), (k3, aI cI 12 V), (ts, aQ cT 6 (tq ad n))] ++ blks cI ad T (n + 2))) (res := fun E => rLay x a b KF S ns = .inr E) hx hb hl9 hown sp_fit1 sp_fits (by decide) (hts (.classLink RX2 43 xIAE) (by decide +kernel)) (hts (.initialized xIAE) (by decide +kernel)) hXS.2.1 (fun w hw => hts w (by first | exact List.mem_cons_of_mem _ (List.mem_append_right _ hw) | exact List.mem_cons_of_mem _ (List.mem_append_left _ (List.mem_append_right _ hw)) | exact List.mem_cons_of_mem _ (List.mem_append_left _ (List.mem_append_left _ (List.mem_append_right _ hw))))) sp_ng1 sp_gw1 hXZ hXS hS hP (hl.1.trans hml.symm) dX2_lay_31 dX2_lay_34 dX2_lay_35 dX2_lay_37 dX2_lay_40 hex (Nat.le_of_ble_eq_true rfl) (Nat.le_of_ble_eq_true rfl) (Nat.le_of_ble_eq_true rfl) (Nat.le_of_ble_eq_true rfl) hlocks (Nat.le_of_ble_eq_true rfl) (Nat.le_of_ble_eq_true rfl) (show rLay x a b KF S ns = .inr xIAE from by simp [rLay, c8])
  · skip
    have c8 : isIn x 0 1999 = true := isIn_not c8
    refine lv_iload_n hx hb dX2_lay_11 rfl (lv_at hl 2 rfl) ?_
    refine lv_bipush (v := (-5)) hx hb dX2_lay_12 (by decide) ?_
    refine lv_iconst (v := 5) hx hb dX2_lay_14 (by decide) ?_
    refine sp_rS (rest := []) (As := [.int a, .int (-5), .int 5]) ⟨hx, hb, hml, hown, hts⟩ (mX2_isOutside l D cI cT a (-5) 5) (va_cwS 3 hts gX2_lay_X2_isOutside rfl rfl rfl (by decide +kernel) ⟨Nat.le_of_ble_eq_true rfl, Nat.le_of_ble_eq_true rfl⟩) hK (show va_P D vwCl [] _ from fun k q h => by simp at h) rfl hl.1 rfl (Nat.le_of_ble_eq_true rfl) dX2_lay_15 ⟨Nat.le_of_ble_eq_true rfl, Nat.le_of_ble_eq_true rfl⟩ ?_
    refine sp_if_ne (tgt := 31) hx hb dX2_lay_18 (by decide) (fun c18 => ?_) (fun c18 => ?_)
    · skip
      have c18 : isIn a (-5) 5 = false := isIn_not c18
      subst hQ
      exact sp_throw (cls := xIAE) (text := "no such stretch can be laid") (w := ([(r, oR tr ts (ad 0 0) (ad 1 0) (nI n) tick), (tr, oK KF k1 k2 k3), (k1, aI cI 12 S), (k2, aI cI 12 U), (k3, aI cI 12 V), (ts, aQ cT 6 (tq ad n))] ++ blks cI ad T (n + 2))) (res := fun E => rLay x a b KF S ns = .inr E) hx hb hl9 hown sp_fit1 sp_fits (by decide) (hts (.classLink RX2 43 xIAE) (by decide +kernel)) (hts (.initialized xIAE) (by decide +kernel)) hXS.2.1 (fun w hw => hts w (by first | exact List.mem_cons_of_mem _ (List.mem_append_right _ hw) | exact List.mem_cons_of_mem _ (List.mem_append_left _ (List.mem_append_right _ hw)) | exact List.mem_cons_of_mem _ (List.mem_append_left _ (List.mem_append_left _ (List.mem_append_right _ hw))))) sp_ng1 sp_gw1 hXZ hXS hS hP (hl.1.trans hml.symm) dX2_lay_31 dX2_lay_34 dX2_lay_35 dX2_lay_37 dX2_lay_40 hex (Nat.le_of_ble_eq_true rfl) (Nat.le_of_ble_eq_true rfl) (Nat.le_of_ble_eq_true rfl) (Nat.le_of_ble_eq_true rfl) hlocks (Nat.le_of_ble_eq_true rfl) (Nat.le_of_ble_eq_true rfl) (show rLay x a b KF S ns = .inr xIAE from by simp [rLay, c8, c18])
    · skip
      have c18 : isIn a (-5) 5 = true := isIn_not c18
      refine lv_iload_n hx hb dX2_lay_21 rfl (lv_at hl 3 rfl) ?_
      refine lv_iconst (v := 0) hx hb dX2_lay_22 (by decide) ?_
      refine lv_bipush (v := 9) hx hb dX2_lay_23 (by decide) ?_
      refine sp_rS (rest := []) (As := [.int b, .int 0, .int 9]) ⟨hx, hb, hml, hown, hts⟩ (mX2_isOutside l D cI cT b 0 9) (va_cwS 3 hts gX2_lay_X2_isOutside rfl rfl rfl (by decide +kernel) ⟨Nat.le_of_ble_eq_true rfl, Nat.le_of_ble_eq_true rfl⟩) hK (show va_P D vwCl [] _ from fun k q h => by simp at h) rfl hl.1 rfl (Nat.le_of_ble_eq_true rfl) dX2_lay_25 ⟨Nat.le_of_ble_eq_true rfl, Nat.le_of_ble_eq_true rfl⟩ ?_
      refine sp_if_eq (tgt := 41) hx hb dX2_lay_28 (by decide) (fun c28 => ?_) (fun c28 => ?_)
      · skip
        have c28 : isIn b 0 9 = true := isIn_not c28
        refine lv_aload_n hx hb dX2_lay_41 rfl (lv_at hl 0 rfl) ?_
        refine va_get (D := D) (ci := 2) (v := .ref tr) (C := RX2) (T := TX2) (N := 6) hx hb hts hiX2 hown hK.1 hP 0 rfl rfl 0 (by decide) (hts (.fieldLink RX2 10 "SledgeRace" "track" "LSledgeRace$Track;") (by decide +kernel)) (fun _ h9 => h9) rfl dX2_lay_42 ?_
        refine lv_iload_n hx hb dX2_lay_45 rfl (lv_at hl 1 rfl) ?_
        refine lv_iload_n hx hb dX2_lay_46 rfl (lv_at hl 2 rfl) ?_
        refine lv_iload_n hx hb dX2_lay_47 rfl (lv_at hl 3 rfl) ?_
        refine sp_vI (rest := []) (As := [.int x, .int a, .int b]) (W1 := ([(r, oR tr ts (ad 0 0) (ad 1 0) (nI n) tick), (tr, oK (cPutK S ns x KF) k1 k2 k3), (k1, aI cI 12 (cPut S ns x S x)), (k2, aI cI 12 (cPut S ns x U a)), (k3, aI cI 12 (cPut S ns x V b)), (ts, aQ cT 6 (tq ad n))] ++ blks cI ad T (n + 2))) ⟨hx, hb, hml, hown, hts⟩ (mX1_putStretch l D cI cT tr k1 k2 k3 KF S U V x a b ns hns hk) (cwV 3 hts gX2_lay_X1_putStretch rfl rfl rfl (by decide +kernel) ⟨Nat.le_of_ble_eq_true rfl, Nat.le_of_ble_eq_true rfl⟩) hK hP hD hS [1, 2, 3, 4] rfl (fun k q h => by simp at h) (sp_nsub (sp_nod2 hD) [1, 2, 3, 4] (by decide) rfl) rfl rfl rfl (ci := 1) rfl rfl rfl rfl hl.1 rfl (Nat.le_of_ble_eq_true rfl) dX2_lay_48 ⟨Nat.le_of_ble_eq_true rfl, Nat.le_of_ble_eq_true rfl⟩ (fun H locs hP hD hS => ?_)
        refine sp_if_ne (tgt := 64) hx hb dX2_lay_51 (by decide) (fun c51 => ?_) (fun c51 => ?_)
        · skip
          refine lv_aload_n hx hb dX2_lay_64 rfl (lv_at hl 0 rfl) ?_
          refine va_get (D := D) (ci := 2) (v := .ref tr) (C := RX2) (T := TX2) (N := 6) hx hb hts hiX2 hown hK.1 hP 0 rfl rfl 0 (by decide) (hts (.fieldLink RX2 10 "SledgeRace" "track" "LSledgeRace$Track;") (by decide +kernel)) (fun _ h9 => h9) rfl dX2_lay_65 ?_
          refine va_getN (D := D) (ci := 1) (v := .int ((cPutK S ns x KF) 3)) (C := RX1) (T := TX1) (N := 5) hx hb hts hiX1 hown hK.1 hP 1 rfl rfl 3 (by decide) (hK.n (w := .fieldLinkNest RX2 66 "SledgeRace$Track" "stretches" "I" "SledgeRace") (by decide +kernel)) (fun _ h9 => h9) rfl dX2_lay_68 ?_
          have hv9 : rLay x a b KF S ns = .inl ((cPutK S ns x KF) 3) := by simp [rLay, c8, c18, c28, of_decide_eq_true c51]
          have hP9 : va_P D vwCl ([(r, oR tr ts (ad 0 0) (ad 1 0) (nI n) tick), (tr, oK (cPutK S ns x KF) k1 k2 k3), (k1, aI cI 12 (cPut S ns x S x)), (k2, aI cI 12 (cPut S ns x U a)), (k3, aI cI 12 (cPut S ns x V b)), (ts, aQ cT 6 (tq ad n))] ++ blks cI ad T (n + 2)) H := hP
          subst hQ
          refine vx_ret (W.widen (k := 1) (n := 6) (Nat.le_of_ble_eq_true rfl) (Nat.le_of_ble_eq_true rfl) ?_)
          exact W.iret hx hb hr (fun t ht hW => ⟨⟨_, (), rfl, hv9, by show va_P D vwCl _ t.heap; rw [ht]; exact hP9⟩, hS.F ht⟩) hS.2.2 dX2_lay_71
        · skip
          have hn12 : ¬ fnd S x ns < 12 := of_decide_eq_false c51
          have hP : va_P D vwCl ([(r, oR tr ts (ad 0 0) (ad 1 0) (nI n) tick), (tr, oK KF k1 k2 k3), (k1, aI cI 12 S), (k2, aI cI 12 U), (k3, aI cI 12 V), (ts, aQ cT 6 (tq ad n))] ++ blks cI ad T (n + 2)) H := by have h := hP; simp only [cPut, cPutK, hn12, false_and, if_false] at h; exact h
          subst hQ
          exact sp_throw (cls := xISE) (text := "there are 12 stretches") (w := ([(r, oR tr ts (ad 0 0) (ad 1 0) (nI n) tick), (tr, oK KF k1 k2 k3), (k1, aI cI 12 S), (k2, aI cI 12 U), (k3, aI cI 12 V), (ts, aQ cT 6 (tq ad n))] ++ blks cI ad T (n + 2))) (res := fun E => rLay x a b KF S ns = .inr E) hx hb hl9 hown sp_fit2 sp_fits (by decide) (hts (.classLink RX2 61 xISE) (by decide +kernel)) (hts (.initialized xISE) (by decide +kernel)) hXS.2.2.1 (fun w hw => hts w (by first | exact List.mem_cons_of_mem _ (List.mem_append_right _ hw) | exact List.mem_cons_of_mem _ (List.mem_append_left _ (List.mem_append_right _ hw)) | exact List.mem_cons_of_mem _ (List.mem_append_left _ (List.mem_append_left _ (List.mem_append_right _ hw))))) sp_ng2 sp_gw2 hXZ hXS hS hP (hl.1.trans hml.symm) dX2_lay_54 dX2_lay_57 dX2_lay_58 dX2_lay_60 dX2_lay_63 hex (Nat.le_of_ble_eq_true rfl) (Nat.le_of_ble_eq_true rfl) (Nat.le_of_ble_eq_true rfl) (Nat.le_of_ble_eq_true rfl) hlocks (Nat.le_of_ble_eq_true rfl) (Nat.le_of_ble_eq_true rfl) (show rLay x a b KF S ns = .inr xISE from by simp [rLay, c8, c18, c28, hn12])
      · skip
        have c28 : isIn b 0 9 = false := isIn_not c28
        subst hQ
        exact sp_throw (cls := xIAE) (text := "no such stretch can be laid") (w := ([(r, oR tr ts (ad 0 0) (ad 1 0) (nI n) tick), (tr, oK KF k1 k2 k3), (k1, aI cI 12 S), (k2, aI cI 12 U), (k3, aI cI 12 V), (ts, aQ cT 6 (tq ad n))] ++ blks cI ad T (n + 2))) (res := fun E => rLay x a b KF S ns = .inr E) hx hb hl9 hown sp_fit1 sp_fits (by decide) (hts (.classLink RX2 43 xIAE) (by decide +kernel)) (hts (.initialized xIAE) (by decide +kernel)) hXS.2.1 (fun w hw => hts w (by first | exact List.mem_cons_of_mem _ (List.mem_append_right _ hw) | exact List.mem_cons_of_mem _ (List.mem_append_left _ (List.mem_append_right _ hw)) | exact List.mem_cons_of_mem _ (List.mem_append_left _ (List.mem_append_left _ (List.mem_append_right _ hw))))) sp_ng1 sp_gw1 hXZ hXS hS hP (hl.1.trans hml.symm) dX2_lay_31 dX2_lay_34 dX2_lay_35 dX2_lay_37 dX2_lay_40 hex (Nat.le_of_ble_eq_true rfl) (Nat.le_of_ble_eq_true rfl) (Nat.le_of_ble_eq_true rfl) (Nat.le_of_ble_eq_true rfl) hlocks (Nat.le_of_ble_eq_true rfl) (Nat.le_of_ble_eq_true rfl) (show rLay x a b KF S ns = .inr xIAE from by simp [rLay, c8, c18, c28])

abbrev rmX2_setCrew : Room := { frames := 7, cells := 2, slots := 12, locals := 104 }
set_option maxHeartbeats 4000000 in
set_option maxRecDepth 100000 in
/-- setCrew -/
theorem mX2_setCrew (l : Launch) (D : va_G) (cI cT : ClassId) (hl9 : l.stackTraces = false) (sz : Nat) (r tr k1 k2 k3 ts : Nat) (ad : Nat → Nat → Nat) (n : Nat) (hn : n ≤ 6) (tick : Int32) (KF S U V : Nat → Int32) (T : Nat → TV) (x a b d r9 : Int32) : MetO l D cI cT yX2_setCrew wsX2_setCrew rmX2_setCrew [.ref r, .int x, .int a, .int b, .int d, .int r9] ([(r, oR tr ts (ad 0 0) (ad 1 0) (nI n) tick), (tr, oK KF k1 k2 k3), (k1, aI cI 12 S), (k2, aI cI 12 U), (k3, aI cI 12 V), (ts, aQ cT 6 (tq ad n))] ++ blks cI ad T (n + 2)) ([(r, oR tr ts (ad 0 0) (ad 1 0) (nI n) tick), (tr, oK KF k1 k2 k3), (k1, aI cI 12 S), (k2, aI cI 12 U), (k3, aI cI 12 V), (ts, aQ cT 6 (tq ad n))] ++ blks cI ad (setT T (x.toNatClampNeg + 2) (upd (upd (upd (upd (upd (T (x.toNatClampNeg + 2)).1 4 a) 5 b) 6 d) 7 r9) 12 r9, (T (x.toNatClampNeg + 2)).2)) (n + 2)) (rCrew x a b d r9 n tick T) 2 12 sz := by
  refine vx_ofW (cc := cX2_setCrew) (maxL := 8) (ret := (some .int)) (by decide) rfl ?_
  intro p e s m args below meth c s₁ B hml hex hv
  obtain ⟨⟨hargs, hsz, hP, hR0, hK, hN⟩, hXZ, hXS⟩ := hv
  subst hsz
  have hAO := hXS.2.2.2.2.1
  have hx := B.exec
  have hb := B.bytes
  have hr := B.returns
  have hts := atoms_spec (ws := wsX2_setCrew) B.pre
  have hown : s.vm.findClass RX2 = some m.cls := findClass_of_methodNamed B.named
  have hlocks := B.notSynchronized
  have hiX0 : ∀ w ∈ u_ws RX0 TX0 20, w ∈ wsX2_setCrew := by decide +kernel
  have hiX2 : ∀ w ∈ u_ws RX2 TX2 6, w ∈ wsX2_setCrew := by decide +kernel
  have he : entryFrame m args 8 = F0 m 0 ((lg_sl [.ref r, .int x, .int a, .int b, .int d, .int r9] ++ List.replicate (8 - (lg_sl [.ref r, .int x, .int a, .int b, .int d, .int r9]).length) Slot.unset).toArray) [] := by rw [hargs]; exact lg_entry_eq m _ _
  rw [he]
  change W p l e rmX2_setCrew s m args below meth c s.heap [] 0 0 (vx_MQ below (va_Qi (S := Unit) (fun z _ => rCrew x a b d r9 n tick T = .inl z) (fun _ t => va_P D vwCl ([(r, oR tr ts (ad 0 0) (ad 1 0) (nI n) tick), (tr, oK KF k1 k2 k3), (k1, aI cI 12 S), (k2, aI cI 12 U), (k3, aI cI 12 V), (ts, aQ cT 6 (tq ad n))] ++ blks cI ad (setT T (x.toNatClampNeg + 2) (upd (upd (upd (upd (upd (T (x.toNatClampNeg + 2)).1 4 a) 5 b) 6 d) 7 r9) 12 r9, (T (x.toNatClampNeg + 2)).2)) (n + 2)) t.heap) (frA (List.map Prod.fst ([(r, oR tr ts (ad 0 0) (ad 1 0) (nI n) tick), (tr, oK KF k1 k2 k3), (k1, aI cI 12 S), (k2, aI cI 12 U), (k3, aI cI 12 V), (ts, aQ cT 6 (tq ad n))] ++ blks cI ad T (n + 2))) s.heap.size)) (XO D ([(r, oR tr ts (ad 0 0) (ad 1 0) (nI n) tick), (tr, oK KF k1 k2 k3), (k1, aI cI 12 S), (k2, aI cI 12 U), (k3, aI cI 12 V), (ts, aQ cT 6 (tq ad n))] ++ blks cI ad T (n + 2)) (fun E => rCrew x a b d r9 n tick T = .inr E) (frA (List.map Prod.fst ([(r, oR tr ts (ad 0 0) (ad 1 0) (nI n) tick), (tr, oK KF k1 k2 k3), (k1, aI cI 12 S), (k2, aI cI 12 U), (k3, aI cI 12 V), (ts, aQ cT 6 (tq ad n))] ++ blks cI ad T (n + 2))) s.heap.size)) args s 2 12 (frA (List.map Prod.fst ([(r, oR tr ts (ad 0 0) (ad 1 0) (nI n) tick), (tr, oK KF k1 k2 k3), (k1, aI cI 12 S), (k2, aI cI 12 U), (k3, aI cI 12 V), (ts, aQ cT 6 (tq ad n))] ++ blks cI ad T (n + 2))) s.heap.size)) _
  obtain ⟨A, hAe⟩ : ∃ A, A = (frA (List.map Prod.fst ([(r, oR tr ts (ad 0 0) (ad 1 0) (nI n) tick), (tr, oK KF k1 k2 k3), (k1, aI cI 12 S), (k2, aI cI 12 U), (k3, aI cI 12 V), (ts, aQ cT 6 (tq ad n))] ++ blks cI ad T (n + 2))) s.heap.size) := ⟨_, rfl⟩
  rw [← hAe]
  have hXZ : XZ A s s.heap := by rw [hAe]; exact hXZ
  obtain ⟨Q, hQ⟩ : ∃ Q, Q = vx_MQ below (va_Qi (S := Unit) (fun z _ => rCrew x a b d r9 n tick T = .inl z) (fun _ t => va_P D vwCl ([(r, oR tr ts (ad 0 0) (ad 1 0) (nI n) tick), (tr, oK KF k1 k2 k3), (k1, aI cI 12 S), (k2, aI cI 12 U), (k3, aI cI 12 V), (ts, aQ cT 6 (tq ad n))] ++ blks cI ad (setT T (x.toNatClampNeg + 2) (upd (upd (upd (upd (upd (T (x.toNatClampNeg + 2)).1 4 a) 5 b) 6 d) 7 r9) 12 r9, (T (x.toNatClampNeg + 2)).2)) (n + 2)) t.heap) A) (XO D ([(r, oR tr ts (ad 0 0) (ad 1 0) (nI n) tick), (tr, oK KF k1 k2 k3), (k1, aI cI 12 S), (k2, aI cI 12 U), (k3, aI cI 12 V), (ts, aQ cT 6 (tq ad n))] ++ blks cI ad T (n + 2)) (fun E => rCrew x a b d r9 n tick T = .inr E) A) args s 2 12 A := ⟨_, rfl⟩
  rw [← hQ]
  have hl := lv_entry [.ref r, .int x, .int a, .int b, .int d, .int r9] (n := 8) (Nat.le_of_ble_eq_true rfl)
  generalize (lg_sl [.ref r, .int x, .int a, .int b, .int d, .int r9] ++ List.replicate (8 - (lg_sl [.ref r, .int x, .int a, .int b, .int d, .int r9]).length) Slot.unset).toArray = ls at hl ⊢
  have hl : lv_has ls 8 [(0, .ref r), (1, .int x), (2, .int a), (3, .int b), (4, .int d), (5, .int r9)] := hl
  have hA0 : ∀ q ∈ List.map Prod.fst ([(r, oR tr ts (ad 0 0) (ad 1 0) (nI n) tick), (tr, oK KF k1 k2 k3), (k1, aI cI 12 S), (k2, aI cI 12 U), (k3, aI cI 12 V), (ts, aQ cT 6 (tq ad n))] ++ blks cI ad T (n + 2)), A q := by rw [hAe]; exact fun q h => Or.inl h
  have hA : ∀ q : Nat, s.heap.size ≤ q → A q := by rw [hAe]; exact fun q h => Or.inr h
  have hD : va_D A ([(r, oR tr ts (ad 0 0) (ad 1 0) (nI n) tick), (tr, oK KF k1 k2 k3), (k1, aI cI 12 S), (k2, aI cI 12 U), (k3, aI cI 12 V), (ts, aQ cT 6 (tq ad n))] ++ blks cI ad T (n + 2)) := sp_D (List.nodup_append.mp (show ((([(r, oR tr ts (ad 0 0) (ad 1 0) (nI n) tick), (tr, oK KF k1 k2 k3), (k1, aI cI 12 S), (k2, aI cI 12 U), (k3, aI cI 12 V), (ts, aQ cT 6 (tq ad n))] ++ blks cI ad T (n + 2)) : va_W).map Prod.fst ++ ([] : va_W).map Prod.fst).Nodup by rw [← List.map_append]; exact hN)).1 hA0
  have hN : (List.map Prod.fst (([(r, oR tr ts (ad 0 0) (ad 1 0) (nI n) tick), (tr, oK KF k1 k2 k3), (k1, aI cI 12 S), (k2, aI cI 12 U), (k3, aI cI 12 V), (ts, aQ cT 6 (tq ad n))] ++ blks cI ad T (n + 2)) ++ []) : List Nat).Nodup := hN
  have hS : va_S A s.heap s.heap [] := va_S.rf
  obtain ⟨H, hH0⟩ : ∃ H, H = s.heap := ⟨_, rfl⟩
  obtain ⟨locs, hlo⟩ : ∃ L : List Loc, L = [] := ⟨_, rfl⟩
  have hP : va_P D vwCl ([(r, oR tr ts (ad 0 0) (ad 1 0) (nI n) tick), (tr, oK KF k1 k2 k3), (k1, aI cI 12 S), (k2, aI cI 12 U), (k3, aI cI 12 V), (ts, aQ cT 6 (tq ad n))] ++ blks cI ad T (n + 2)) H := by rw [hH0]; exact hP
  have hS : va_S A s.heap H locs := by rw [hH0, hlo]; exact hS
  rw [show W p l e rmX2_setCrew s m args below meth c s.heap [] 0 0 Q (F0 m 0 ls []) = W p l e rmX2_setCrew s m args below meth c H locs 0 0 Q (F0 m 0 ls []) by rw [hH0, hlo]]
  clear hH0 hlo
  refine lv_aload_n hx hb dX2_setCrew_0 rfl (lv_at hl 0 rfl) ?_
  refine lv_iload_n hx hb dX2_setCrew_1 rfl (lv_at hl 1 rfl) ?_
  refine sp_oR (rest := []) (As := [.int x]) (W1 := ([(r, oR tr ts (ad 0 0) (ad 1 0) (nI n) tick), (tr, oK KF k1 k2 k3), (k1, aI cI 12 S), (k2, aI cI 12 U), (k3, aI cI 12 V), (ts, aQ cT 6 (tq ad n))] ++ blks cI ad T (n + 2))) (ci := 2) (w := ([(r, oR tr ts (ad 0 0) (ad 1 0) (nI n) tick), (tr, oK KF k1 k2 k3), (k1, aI cI 12 S), (k2, aI cI 12 U), (k3, aI cI 12 V), (ts, aQ cT 6 (tq ad n))] ++ blks cI ad T (n + 2))) (rs := fun E => rCrew x a b d r9 n tick T = .inr E) ⟨hx, hb, hml, hown, hts⟩ (mX2_teamNumbered l D cI cT hl9 H.size r tr k1 k2 k3 ts ad n hn tick KF S U V T x) (cwV 1 hts gX2_setCrew_X2_teamNumbered rfl rfl rfl (by decide +kernel) ⟨Nat.le_of_ble_eq_true rfl, Nat.le_of_ble_eq_true rfl⟩) hK hXZ hXS hP hD hS hA (xb_fst rfl cI ad _ _ (n + 2)) rfl rfl rfl rfl hl.1 rfl (Nat.le_of_ble_eq_true rfl) dX2_setCrew_2 ⟨Nat.le_of_ble_eq_true rfl, Nat.le_of_ble_eq_true rfl⟩ hex hlocks rfl (fun E hE => by obtain ⟨hin, rfl⟩ := teamR_inr hE; simp [rCrew, hin]) (Nat.le_of_ble_eq_true rfl) (Nat.le_of_ble_eq_true rfl) hQ (fun ra H locs hres hP hD hS => ?_)
  obtain ⟨i, cin, rfl, rfl⟩ := teamR_inl hn hres
  have hin : isIn (nI i) 0 (nI n - 1) = true := isIn_lt (by omega) cin
  have hcl : (nI i).toNatClampNeg = i := nI_clamp (by omega)
  refine lv_astore (lv' := [(6, .ref (ad (i + 2) 0)), (0, .ref r), (1, .int (nI i)), (2, .int a), (3, .int b), (4, .int d), (5, .int r9)]) hx hb dX2_setCrew_5 hl (by decide) rfl (fun ls hl => ?_)
  refine lv_iload_n hx hb dX2_setCrew_7 rfl (lv_at hl 3 rfl) ?_
  refine lv_iconst (v := 1) hx hb dX2_setCrew_8 (by decide) ?_
  refine lv_bipush (v := 9) hx hb dX2_setCrew_9 (by decide) ?_
  refine sp_rS (rest := []) (As := [.int a, .int 1, .int 9]) ⟨hx, hb, hml, hown, hts⟩ (mX2_isOutside l D cI cT a 1 9) (va_cwS 3 hts gX2_setCrew_X2_isOutside rfl rfl rfl (by decide +kernel) ⟨Nat.le_of_ble_eq_true rfl, Nat.le_of_ble_eq_true rfl⟩) hK (show va_P D vwCl [] _ from fun k q h => by simp at h) rfl hl.1 rfl (Nat.le_of_ble_eq_true rfl) dX2_setCrew_11 ⟨Nat.le_of_ble_eq_true rfl, Nat.le_of_ble_eq_true rfl⟩ ?_
  refine sp_if_ne (tgt := 50) hx hb dX2_setCrew_14 (by decide) (fun c14 => ?_) (fun c14 => ?_)
  · skip
    have c14 : isIn a 1 9 = false := isIn_not c14
    subst hQ
    exact sp_throw (cls := xIAE) (text := "no such crew can be had") (w := ([(r, oR tr ts (ad 0 0) (ad 1 0) (nI n) tick), (tr, oK KF k1 k2 k3), (k1, aI cI 12 S), (k2, aI cI 12 U), (k3, aI cI 12 V), (ts, aQ cT 6 (tq ad n))] ++ blks cI ad T (n + 2))) (res := fun E => rCrew (nI i) a b d r9 n tick T = .inr E) hx hb hl9 hown sp_fit1 sp_fits (by decide) (hts (.classLink RX2 43 xIAE) (by decide +kernel)) (hts (.initialized xIAE) (by decide +kernel)) hXS.2.1 (fun w hw => hts w (by first | exact List.mem_cons_of_mem _ (List.mem_append_right _ hw) | exact List.mem_cons_of_mem _ (List.mem_append_left _ (List.mem_append_right _ hw)) | exact List.mem_cons_of_mem _ (List.mem_append_left _ (List.mem_append_left _ (List.mem_append_right _ hw))))) sp_ng1 sp_gw1 hXZ hXS hS hP (hl.1.trans hml.symm) dX2_setCrew_50 dX2_setCrew_53 dX2_setCrew_54 dX2_setCrew_56 dX2_setCrew_59 hex (Nat.le_of_ble_eq_true rfl) (Nat.le_of_ble_eq_true rfl) (Nat.le_of_ble_eq_true rfl) (Nat.le_of_ble_eq_true rfl) hlocks (Nat.le_of_ble_eq_true rfl) (Nat.le_of_ble_eq_true rfl) (show rCrew (nI i) a b d r9 n tick T = .inr xIAE from by simp [rCrew, c14, hin, hcl])
  · skip
    have c14 : isIn a 1 9 = true := isIn_not c14
    refine lv_iload_n hx hb dX2_setCrew_17 rfl (lv_at hl 4 rfl) ?_
    refine lv_iconst (v := 1) hx hb dX2_setCrew_18 (by decide) ?_
    refine lv_bipush (v := 20) hx hb dX2_setCrew_19 (by decide) ?_
    refine sp_rS (rest := []) (As := [.int b, .int 1, .int 20]) ⟨hx, hb, hml, hown, hts⟩ (mX2_isOutside l D cI cT b 1 20) (va_cwS 3 hts gX2_setCrew_X2_isOutside rfl rfl rfl (by decide +kernel) ⟨Nat.le_of_ble_eq_true rfl, Nat.le_of_ble_eq_true rfl⟩) hK (show va_P D vwCl [] _ from fun k q h => by simp at h) rfl hl.1 rfl (Nat.le_of_ble_eq_true rfl) dX2_setCrew_21 ⟨Nat.le_of_ble_eq_true rfl, Nat.le_of_ble_eq_true rfl⟩ ?_
    refine sp_if_ne (tgt := 50) hx hb dX2_setCrew_24 (by decide) (fun c24 => ?_) (fun c24 => ?_)
    · skip
      have c24 : isIn b 1 20 = false := isIn_not c24
      subst hQ
      exact sp_throw (cls := xIAE) (text := "no such crew can be had") (w := ([(r, oR tr ts (ad 0 0) (ad 1 0) (nI n) tick), (tr, oK KF k1 k2 k3), (k1, aI cI 12 S), (k2, aI cI 12 U), (k3, aI cI 12 V), (ts, aQ cT 6 (tq ad n))] ++ blks cI ad T (n + 2))) (res := fun E => rCrew (nI i) a b d r9 n tick T = .inr E) hx hb hl9 hown sp_fit1 sp_fits (by decide) (hts (.classLink RX2 43 xIAE) (by decide +kernel)) (hts (.initialized xIAE) (by decide +kernel)) hXS.2.1 (fun w hw => hts w (by first | exact List.mem_cons_of_mem _ (List.mem_append_right _ hw) | exact List.mem_cons_of_mem _ (List.mem_append_left _ (List.mem_append_right _ hw)) | exact List.mem_cons_of_mem _ (List.mem_append_left _ (List.mem_append_left _ (List.mem_append_right _ hw))))) sp_ng1 sp_gw1 hXZ hXS hS hP (hl.1.trans hml.symm) dX2_setCrew_50 dX2_setCrew_53 dX2_setCrew_54 dX2_setCrew_56 dX2_setCrew_59 hex (Nat.le_of_ble_eq_true rfl) (Nat.le_of_ble_eq_true rfl) (Nat.le_of_ble_eq_true rfl) (Nat.le_of_ble_eq_true rfl) hlocks (Nat.le_of_ble_eq_true rfl) (Nat.le_of_ble_eq_true rfl) (show rCrew (nI i) a b d r9 n tick T = .inr xIAE from by simp [rCrew, c14, c24, hin, hcl])
    · skip
      have c24 : isIn b 1 20 = true := isIn_not c24
      refine lv_iload hx hb dX2_setCrew_27 (lv_at hl 5 rfl) ?_
      refine lv_iconst (v := 1) hx hb dX2_setCrew_29 (by decide) ?_
      refine lv_iconst (v := 3) hx hb dX2_setCrew_30 (by decide) ?_
      refine sp_rS (rest := []) (As := [.int d, .int 1, .int 3]) ⟨hx, hb, hml, hown, hts⟩ (mX2_isOutside l D cI cT d 1 3) (va_cwS 3 hts gX2_setCrew_X2_isOutside rfl rfl rfl (by decide +kernel) ⟨Nat.le_of_ble_eq_true rfl, Nat.le_of_ble_eq_true rfl⟩) hK (show va_P D vwCl [] _ from fun k q h => by simp at h) rfl hl.1 rfl (Nat.le_of_ble_eq_true rfl) dX2_setCrew_31 ⟨Nat.le_of_ble_eq_true rfl, Nat.le_of_ble_eq_true rfl⟩ ?_
      refine sp_if_ne (tgt := 50) hx hb dX2_setCrew_34 (by decide) (fun c34 => ?_) (fun c34 => ?_)
      · skip
        have c34 : isIn d 1 3 = false := isIn_not c34
        subst hQ
        exact sp_throw (cls := xIAE) (text := "no such crew can be had") (w := ([(r, oR tr ts (ad 0 0) (ad 1 0) (nI n) tick), (tr, oK KF k1 k2 k3), (k1, aI cI 12 S), (k2, aI cI 12 U), (k3, aI cI 12 V), (ts, aQ cT 6 (tq ad n))] ++ blks cI ad T (n + 2))) (res := fun E => rCrew (nI i) a b d r9 n tick T = .inr E) hx hb hl9 hown sp_fit1 sp_fits (by decide) (hts (.classLink RX2 43 xIAE) (by decide +kernel)) (hts (.initialized xIAE) (by decide +kernel)) hXS.2.1 (fun w hw => hts w (by first | exact List.mem_cons_of_mem _ (List.mem_append_right _ hw) | exact List.mem_cons_of_mem _ (List.mem_append_left _ (List.mem_append_right _ hw)) | exact List.mem_cons_of_mem _ (List.mem_append_left _ (List.mem_append_left _ (List.mem_append_right _ hw))))) sp_ng1 sp_gw1 hXZ hXS hS hP (hl.1.trans hml.symm) dX2_setCrew_50 dX2_setCrew_53 dX2_setCrew_54 dX2_setCrew_56 dX2_setCrew_59 hex (Nat.le_of_ble_eq_true rfl) (Nat.le_of_ble_eq_true rfl) (Nat.le_of_ble_eq_true rfl) (Nat.le_of_ble_eq_true rfl) hlocks (Nat.le_of_ble_eq_true rfl) (Nat.le_of_ble_eq_true rfl) (show rCrew (nI i) a b d r9 n tick T = .inr xIAE from by simp [rCrew, c14, c24, c34, hin, hcl])
      · skip
        have c34 : isIn d 1 3 = true := isIn_not c34
        refine lv_iload hx hb dX2_setCrew_37 (lv_at hl 6 rfl) ?_
        refine lv_bipush (v := 20) hx hb dX2_setCrew_39 (by decide) ?_
        refine lv_sipush (v := 400) hx hb dX2_setCrew_41 (by decide) ?_
        refine sp_rS (rest := []) (As := [.int r9, .int 20, .int 400]) ⟨hx, hb, hml, hown, hts⟩ (mX2_isOutside l D cI cT r9 20 400) (va_cwS 3 hts gX2_setCrew_X2_isOutside rfl rfl rfl (by decide +kernel) ⟨Nat.le_of_ble_eq_true rfl, Nat.le_of_ble_eq_true rfl⟩) hK (show va_P D vwCl [] _ from fun k q h => by simp at h) rfl hl.1 rfl (Nat.le_of_ble_eq_true rfl) dX2_setCrew_44 ⟨Nat.le_of_ble_eq_true rfl, Nat.le_of_ble_eq_true rfl⟩ ?_
        refine sp_if_eq (tgt := 60) hx hb dX2_setCrew_47 (by decide) (fun c47 => ?_) (fun c47 => ?_)
        · skip
          have c47 : isIn r9 20 400 = true := isIn_not c47
          refine lv_aload_n hx hb dX2_setCrew_60 rfl (lv_at hl 1 rfl) ?_
          refine sp_oV (rest := []) (As := []) (W1 := ([(r, oR tr ts (ad 0 0) (ad 1 0) (nI n) tick), (tr, oK KF k1 k2 k3), (k1, aI cI 12 S), (k2, aI cI 12 U), (k3, aI cI 12 V), (ts, aQ cT 6 (tq ad n))] ++ blks cI ad T (n + 2))) (ci := 2) (w := ([(r, oR tr ts (ad 0 0) (ad 1 0) (nI n) tick), (tr, oK KF k1 k2 k3), (k1, aI cI 12 S), (k2, aI cI 12 U), (k3, aI cI 12 V), (ts, aQ cT 6 (tq ad n))] ++ blks cI ad T (n + 2))) (rs := fun E => rCrew (nI i) a b d r9 n tick T = .inr E) ⟨hx, hb, hml, hown, hts⟩ (mX2_requireStart l D cI cT hl9 H.size r tr k1 k2 k3 ts ad n hn tick KF S U V T) (cwV 0 hts gX2_setCrew_X2_requireStart rfl rfl rfl (by decide +kernel) ⟨Nat.le_of_ble_eq_true rfl, Nat.le_of_ble_eq_true rfl⟩) hK hXZ hXS hP hD hS hA (xb_fst rfl cI ad _ _ (n + 2)) rfl rfl rfl rfl hl.1 rfl (Nat.le_of_ble_eq_true rfl) dX2_setCrew_61 ⟨Nat.le_of_ble_eq_true rfl, Nat.le_of_ble_eq_true rfl⟩ hex hlocks rfl (fun E hE => by obtain ⟨ht, rfl⟩ := startR_some hE; simp [rCrew, c14, c24, c34, c47, hin, hcl, ht]) (Nat.le_of_ble_eq_true rfl) (Nat.le_of_ble_eq_true rfl) hQ (fun H locs hres hP hD hS => ?_)
          have ht := startR_none hres
          refine lv_aload hx hb dX2_setCrew_64 (lv_at hl 0 rfl) ?_
          refine va_getN (D := D) (ci := 0) (v := .int (((T (i + 2)).1) 4)) (C := RX0) (T := TX0) (N := 20) hx hb hts hiX0 hown hK.1 (blk_P hP (show i + 2 < n + 2 by omega)) 0 rfl rfl 4 (by decide) (hK.n (w := .fieldLinkNest RX2 85 "SledgeRace$Team" "pullers" "I" "SledgeRace") (by decide +kernel)) (fun _ h9 => h9) rfl dX2_setCrew_66 ?_
          refine lv_istore (lv' := [(7, .int (((T (i + 2)).1) 4)), (6, .ref (ad (i + 2) 0)), (0, .ref r), (1, .int (nI i)), (2, .int a), (3, .int b), (4, .int d), (5, .int r9)]) hx hb dX2_setCrew_69 hl (by decide) rfl (fun ls hl => ?_)
          refine lv_aload hx hb dX2_setCrew_71 (lv_at hl 1 rfl) ?_
          refine lv_iload_n hx hb dX2_setCrew_73 rfl (lv_at hl 4 rfl) ?_
          refine va_putN (D := D) (ci := 0) (v := .int a) (ty := .int) (C := RX0) (T := TX0) (N := 20) hx hb hts hiX0 tyX0 tyX0_ok nmX0 hown hK.1 hP hD hS (([(r, oR tr ts (ad 0 0) (ad 1 0) (nI n) tick), (tr, oK KF k1 k2 k3), (k1, aI cI 12 S), (k2, aI cI 12 U), (k3, aI cI 12 V), (ts, aQ cT 6 (tq ad n))] : va_W).length + 4 * (i + 2) + 0) ((xb_get [(r, oR tr ts (ad 0 0) (ad 1 0) (nI n) tick), (tr, oK KF k1 k2 k3), (k1, aI cI 12 S), (k2, aI cI 12 U), (k3, aI cI 12 V), (ts, aQ cT 6 (tq ad n))] cI ad T (by decide) (show i + 2 < n + 2 by omega)).trans rfl) rfl 4 (by decide) (hK.n (w := .fieldLinkNest RX2 85 "SledgeRace$Team" "pullers" "I" "SledgeRace") (by decide +kernel)) (fun _ h9 => h9) rfl (by decide +kernel) rfl rfl (Nat.le_of_ble_eq_true rfl) dX2_setCrew_74 (fun H locs hP hD hS => ?_)
          have hP : va_P D vwCl ([(r, oR tr ts (ad 0 0) (ad 1 0) (nI n) tick), (tr, oK KF k1 k2 k3), (k1, aI cI 12 S), (k2, aI cI 12 U), (k3, aI cI 12 V), (ts, aQ cT 6 (tq ad n))] ++ blks cI ad (setT T (i + 2) (upd (T (i + 2)).1 4 a, (T (i + 2)).2)) (n + 2)) H := by rw [← blk_set0 [(r, oR tr ts (ad 0 0) (ad 1 0) (nI n) tick), (tr, oK KF k1 k2 k3), (k1, aI cI 12 S), (k2, aI cI 12 U), (k3, aI cI 12 V), (ts, aQ cT 6 (tq ad n))] cI ad T (upd (T (i + 2)).1 4 a) (show i + 2 < n + 2 by omega)]; exact hP
          have hD : va_D A ([(r, oR tr ts (ad 0 0) (ad 1 0) (nI n) tick), (tr, oK KF k1 k2 k3), (k1, aI cI 12 S), (k2, aI cI 12 U), (k3, aI cI 12 V), (ts, aQ cT 6 (tq ad n))] ++ blks cI ad (setT T (i + 2) (upd (T (i + 2)).1 4 a, (T (i + 2)).2)) (n + 2)) := by rw [← blk_set0 [(r, oR tr ts (ad 0 0) (ad 1 0) (nI n) tick), (tr, oK KF k1 k2 k3), (k1, aI cI 12 S), (k2, aI cI 12 U), (k3, aI cI 12 V), (ts, aQ cT 6 (tq ad n))] cI ad T (upd (T (i + 2)).1 4 a) (show i + 2 < n + 2 by omega)]; exact hD
          refine lv_aload hx hb dX2_setCrew_77 (lv_at hl 1 rfl) ?_
          refine lv_iload_n hx hb dX2_setCrew_79 rfl (lv_at hl 5 rfl) ?_
          refine va_putN (D := D) (ci := 0) (v := .int b) (ty := .int) (C := RX0) (T := TX0) (N := 20) hx hb hts hiX0 tyX0 tyX0_ok nmX0 hown hK.1 hP hD hS (([(r, oR tr ts (ad 0 0) (ad 1 0) (nI n) tick), (tr, oK KF k1 k2 k3), (k1, aI cI 12 S), (k2, aI cI 12 U), (k3, aI cI 12 V), (ts, aQ cT 6 (tq ad n))] : va_W).length + 4 * (i + 2) + 0) ((xb_get [(r, oR tr ts (ad 0 0) (ad 1 0) (nI n) tick), (tr, oK KF k1 k2 k3), (k1, aI cI 12 S), (k2, aI cI 12 U), (k3, aI cI 12 V), (ts, aQ cT 6 (tq ad n))] cI ad (setT T (i + 2) (upd (T (i + 2)).1 4 a, (T (i + 2)).2)) (by decide) (show i + 2 < n + 2 by omega)).trans rfl) rfl 5 (by decide) (hK.n (w := .fieldLinkNest RX2 88 "SledgeRace$Team" "strength" "I" "SledgeRace") (by decide +kernel)) (fun _ h9 => h9) rfl (by decide +kernel) rfl rfl (Nat.le_of_ble_eq_true rfl) dX2_setCrew_80 (fun H locs hP hD hS => ?_)
          have hP : va_P D vwCl ([(r, oR tr ts (ad 0 0) (ad 1 0) (nI n) tick), (tr, oK KF k1 k2 k3), (k1, aI cI 12 S), (k2, aI cI 12 U), (k3, aI cI 12 V), (ts, aQ cT 6 (tq ad n))] ++ blks cI ad (setT (setT T (i + 2) (upd (T (i + 2)).1 4 a, (T (i + 2)).2)) (i + 2) (upd ((setT T (i + 2) (upd (T (i + 2)).1 4 a, (T (i + 2)).2)) (i + 2)).1 5 b, ((setT T (i + 2) (upd (T (i + 2)).1 4 a, (T (i + 2)).2)) (i + 2)).2)) (n + 2)) H := by rw [← blk_set0 [(r, oR tr ts (ad 0 0) (ad 1 0) (nI n) tick), (tr, oK KF k1 k2 k3), (k1, aI cI 12 S), (k2, aI cI 12 U), (k3, aI cI 12 V), (ts, aQ cT 6 (tq ad n))] cI ad (setT T (i + 2) (upd (T (i + 2)).1 4 a, (T (i + 2)).2)) (upd ((setT T (i + 2) (upd (T (i + 2)).1 4 a, (T (i + 2)).2)) (i + 2)).1 5 b) (show i + 2 < n + 2 by omega)]; exact hP
          have hD : va_D A ([(r, oR tr ts (ad 0 0) (ad 1 0) (nI n) tick), (tr, oK KF k1 k2 k3), (k1, aI cI 12 S), (k2, aI cI 12 U), (k3, aI cI 12 V), (ts, aQ cT 6 (tq ad n))] ++ blks cI ad (setT (setT T (i + 2) (upd (T (i + 2)).1 4 a, (T (i + 2)).2)) (i + 2) (upd ((setT T (i + 2) (upd (T (i + 2)).1 4 a, (T (i + 2)).2)) (i + 2)).1 5 b, ((setT T (i + 2) (upd (T (i + 2)).1 4 a, (T (i + 2)).2)) (i + 2)).2)) (n + 2)) := by rw [← blk_set0 [(r, oR tr ts (ad 0 0) (ad 1 0) (nI n) tick), (tr, oK KF k1 k2 k3), (k1, aI cI 12 S), (k2, aI cI 12 U), (k3, aI cI 12 V), (ts, aQ cT 6 (tq ad n))] cI ad (setT T (i + 2) (upd (T (i + 2)).1 4 a, (T (i + 2)).2)) (upd ((setT T (i + 2) (upd (T (i + 2)).1 4 a, (T (i + 2)).2)) (i + 2)).1 5 b) (show i + 2 < n + 2 by omega)]; exact hD
          have eT : setT (setT T (i + 2) (upd (T (i + 2)).1 4 a, (T (i + 2)).2)) (i + 2) (upd ((setT T (i + 2) (upd (T (i + 2)).1 4 a, (T (i + 2)).2)) (i + 2)).1 5 b, ((setT T (i + 2) (upd (T (i + 2)).1 4 a, (T (i + 2)).2)) (i + 2)).2) = setT T (i + 2) (upd (upd (T (i + 2)).1 4 a) 5 b, (T (i + 2)).2) := by rw [setT_setT, setT_i]
          have hP : va_P D vwCl ([(r, oR tr ts (ad 0 0) (ad 1 0) (nI n) tick), (tr, oK KF k1 k2 k3), (k1, aI cI 12 S), (k2, aI cI 12 U), (k3, aI cI 12 V), (ts, aQ cT 6 (tq ad n))] ++ blks cI ad (setT T (i + 2) (upd (upd (T (i + 2)).1 4 a) 5 b, (T (i + 2)).2)) (n + 2)) H := by rw [← eT]; exact hP
          have hD : va_D A ([(r, oR tr ts (ad 0 0) (ad 1 0) (nI n) tick), (tr, oK KF k1 k2 k3), (k1, aI cI 12 S), (k2, aI cI 12 U), (k3, aI cI 12 V), (ts, aQ cT 6 (tq ad n))] ++ blks cI ad (setT T (i + 2) (upd (upd (T (i + 2)).1 4 a) 5 b, (T (i + 2)).2)) (n + 2)) := by rw [← eT]; exact hD
          refine lv_aload hx hb dX2_setCrew_83 (lv_at hl 1 rfl) ?_
          refine lv_iload hx hb dX2_setCrew_85 (lv_at hl 6 rfl) ?_
          refine va_putN (D := D) (ci := 0) (v := .int d) (ty := .int) (C := RX0) (T := TX0) (N := 20) hx hb hts hiX0 tyX0 tyX0_ok nmX0 hown hK.1 hP hD hS (([(r, oR tr ts (ad 0 0) (ad 1 0) (nI n) tick), (tr, oK KF k1 k2 k3), (k1, aI cI 12 S), (k2, aI cI 12 U), (k3, aI cI 12 V), (ts, aQ cT 6 (tq ad n))] : va_W).length + 4 * (i + 2) + 0) ((xb_get [(r, oR tr ts (ad 0 0) (ad 1 0) (nI n) tick), (tr, oK KF k1 k2 k3), (k1, aI cI 12 S), (k2, aI cI 12 U), (k3, aI cI 12 V), (ts, aQ cT 6 (tq ad n))] cI ad (setT T (i + 2) (upd (upd (T (i + 2)).1 4 a) 5 b, (T (i + 2)).2)) (by decide) (show i + 2 < n + 2 by omega)).trans rfl) rfl 6 (by decide) (hK.n (w := .fieldLinkNest RX2 91 "SledgeRace$Team" "runners" "I" "SledgeRace") (by decide +kernel)) (fun _ h9 => h9) rfl (by decide +kernel) rfl rfl (Nat.le_of_ble_eq_true rfl) dX2_setCrew_87 (fun H locs hP hD hS => ?_)
          have hP : va_P D vwCl ([(r, oR tr ts (ad 0 0) (ad 1 0) (nI n) tick), (tr, oK KF k1 k2 k3), (k1, aI cI 12 S), (k2, aI cI 12 U), (k3, aI cI 12 V), (ts, aQ cT 6 (tq ad n))] ++ blks cI ad (setT (setT T (i + 2) (upd (upd (T (i + 2)).1 4 a) 5 b, (T (i + 2)).2)) (i + 2) (upd ((setT T (i + 2) (upd (upd (T (i + 2)).1 4 a) 5 b, (T (i + 2)).2)) (i + 2)).1 6 d, ((setT T (i + 2) (upd (upd (T (i + 2)).1 4 a) 5 b, (T (i + 2)).2)) (i + 2)).2)) (n + 2)) H := by rw [← blk_set0 [(r, oR tr ts (ad 0 0) (ad 1 0) (nI n) tick), (tr, oK KF k1 k2 k3), (k1, aI cI 12 S), (k2, aI cI 12 U), (k3, aI cI 12 V), (ts, aQ cT 6 (tq ad n))] cI ad (setT T (i + 2) (upd (upd (T (i + 2)).1 4 a) 5 b, (T (i + 2)).2)) (upd ((setT T (i + 2) (upd (upd (T (i + 2)).1 4 a) 5 b, (T (i + 2)).2)) (i + 2)).1 6 d) (show i + 2 < n + 2 by omega)]; exact hP
          have hD : va_D A ([(r, oR tr ts (ad 0 0) (ad 1 0) (nI n) tick), (tr, oK KF k1 k2 k3), (k1, aI cI 12 S), (k2, aI cI 12 U), (k3, aI cI 12 V), (ts, aQ cT 6 (tq ad n))] ++ blks cI ad (setT (setT T (i + 2) (upd (upd (T (i + 2)).1 4 a) 5 b, (T (i + 2)).2)) (i + 2) (upd ((setT T (i + 2) (upd (upd (T (i + 2)).1 4 a) 5 b, (T (i + 2)).2)) (i + 2)).1 6 d, ((setT T (i + 2) (upd (upd (T (i + 2)).1 4 a) 5 b, (T (i + 2)).2)) (i + 2)).2)) (n + 2)) := by rw [← blk_set0 [(r, oR tr ts (ad 0 0) (ad 1 0) (nI n) tick), (tr, oK KF k1 k2 k3), (k1, aI cI 12 S), (k2, aI cI 12 U), (k3, aI cI 12 V), (ts, aQ cT 6 (tq ad n))] cI ad (setT T (i + 2) (upd (upd (T (i + 2)).1 4 a) 5 b, (T (i + 2)).2)) (upd ((setT T (i + 2) (upd (upd (T (i + 2)).1 4 a) 5 b, (T (i + 2)).2)) (i + 2)).1 6 d) (show i + 2 < n + 2 by omega)]; exact hD
          have eT : setT (setT T (i + 2) (upd (upd (T (i + 2)).1 4 a) 5 b, (T (i + 2)).2)) (i + 2) (upd ((setT T (i + 2) (upd (upd (T (i + 2)).1 4 a) 5 b, (T (i + 2)).2)) (i + 2)).1 6 d, ((setT T (i + 2) (upd (upd (T (i + 2)).1 4 a) 5 b, (T (i + 2)).2)) (i + 2)).2) = setT T (i + 2) (upd (upd (upd (T (i + 2)).1 4 a) 5 b) 6 d, (T (i + 2)).2) := by rw [setT_setT, setT_i]
          have hP : va_P D vwCl ([(r, oR tr ts (ad 0 0) (ad 1 0) (nI n) tick), (tr, oK KF k1 k2 k3), (k1, aI cI 12 S), (k2, aI cI 12 U), (k3, aI cI 12 V), (ts, aQ cT 6 (tq ad n))] ++ blks cI ad (setT T (i + 2) (upd (upd (upd (T (i + 2)).1 4 a) 5 b) 6 d, (T (i + 2)).2)) (n + 2)) H := by rw [← eT]; exact hP
          have hD : va_D A ([(r, oR tr ts (ad 0 0) (ad 1 0) (nI n) tick), (tr, oK KF k1 k2 k3), (k1, aI cI 12 S), (k2, aI cI 12 U), (k3, aI cI 12 V), (ts, aQ cT 6 (tq ad n))] ++ blks cI ad (setT T (i + 2) (upd (upd (upd (T (i + 2)).1 4 a) 5 b) 6 d, (T (i + 2)).2)) (n + 2)) := by rw [← eT]; exact hD
          refine lv_aload hx hb dX2_setCrew_90 (lv_at hl 1 rfl) ?_
          refine lv_iload hx hb dX2_setCrew_92 (lv_at hl 7 rfl) ?_
          refine va_putN (D := D) (ci := 0) (v := .int r9) (ty := .int) (C := RX0) (T := TX0) (N := 20) hx hb hts hiX0 tyX0 tyX0_ok nmX0 hown hK.1 hP hD hS (([(r, oR tr ts (ad 0 0) (ad 1 0) (nI n) tick), (tr, oK KF k1 k2 k3), (k1, aI cI 12 S), (k2, aI cI 12 U), (k3, aI cI 12 V), (ts, aQ cT 6 (tq ad n))] : va_W).length + 4 * (i + 2) + 0) ((xb_get [(r, oR tr ts (ad 0 0) (ad 1 0) (nI n) tick), (tr, oK KF k1 k2 k3), (k1, aI cI 12 S), (k2, aI cI 12 U), (k3, aI cI 12 V), (ts, aQ cT 6 (tq ad n))] cI ad (setT T (i + 2) (upd (upd (upd (T (i + 2)).1 4 a) 5 b) 6 d, (T (i + 2)).2)) (by decide) (show i + 2 < n + 2 by omega)).trans rfl) rfl 7 (by decide) (hK.n (w := .fieldLinkNest RX2 94 "SledgeRace$Team" "wholeRope" "I" "SledgeRace") (by decide +kernel)) (fun _ h9 => h9) rfl (by decide +kernel) rfl rfl (Nat.le_of_ble_eq_true rfl) dX2_setCrew_94 (fun H locs hP hD hS => ?_)
          have hP : va_P D vwCl ([(r, oR tr ts (ad 0 0) (ad 1 0) (nI n) tick), (tr, oK KF k1 k2 k3), (k1, aI cI 12 S), (k2, aI cI 12 U), (k3, aI cI 12 V), (ts, aQ cT 6 (tq ad n))] ++ blks cI ad (setT (setT T (i + 2) (upd (upd (upd (T (i + 2)).1 4 a) 5 b) 6 d, (T (i + 2)).2)) (i + 2) (upd ((setT T (i + 2) (upd (upd (upd (T (i + 2)).1 4 a) 5 b) 6 d, (T (i + 2)).2)) (i + 2)).1 7 r9, ((setT T (i + 2) (upd (upd (upd (T (i + 2)).1 4 a) 5 b) 6 d, (T (i + 2)).2)) (i + 2)).2)) (n + 2)) H := by rw [← blk_set0 [(r, oR tr ts (ad 0 0) (ad 1 0) (nI n) tick), (tr, oK KF k1 k2 k3), (k1, aI cI 12 S), (k2, aI cI 12 U), (k3, aI cI 12 V), (ts, aQ cT 6 (tq ad n))] cI ad (setT T (i + 2) (upd (upd (upd (T (i + 2)).1 4 a) 5 b) 6 d, (T (i + 2)).2)) (upd ((setT T (i + 2) (upd (upd (upd (T (i + 2)).1 4 a) 5 b) 6 d, (T (i + 2)).2)) (i + 2)).1 7 r9) (show i + 2 < n + 2 by omega)]; exact hP
          have hD : va_D A ([(r, oR tr ts (ad 0 0) (ad 1 0) (nI n) tick), (tr, oK KF k1 k2 k3), (k1, aI cI 12 S), (k2, aI cI 12 U), (k3, aI cI 12 V), (ts, aQ cT 6 (tq ad n))] ++ blks cI ad (setT (setT T (i + 2) (upd (upd (upd (T (i + 2)).1 4 a) 5 b) 6 d, (T (i + 2)).2)) (i + 2) (upd ((setT T (i + 2) (upd (upd (upd (T (i + 2)).1 4 a) 5 b) 6 d, (T (i + 2)).2)) (i + 2)).1 7 r9, ((setT T (i + 2) (upd (upd (upd (T (i + 2)).1 4 a) 5 b) 6 d, (T (i + 2)).2)) (i + 2)).2)) (n + 2)) := by rw [← blk_set0 [(r, oR tr ts (ad 0 0) (ad 1 0) (nI n) tick), (tr, oK KF k1 k2 k3), (k1, aI cI 12 S), (k2, aI cI 12 U), (k3, aI cI 12 V), (ts, aQ cT 6 (tq ad n))] cI ad (setT T (i + 2) (upd (upd (upd (T (i + 2)).1 4 a) 5 b) 6 d, (T (i + 2)).2)) (upd ((setT T (i + 2) (upd (upd (upd (T (i + 2)).1 4 a) 5 b) 6 d, (T (i + 2)).2)) (i + 2)).1 7 r9) (show i + 2 < n + 2 by omega)]; exact hD
          have eT : setT (setT T (i + 2) (upd (upd (upd (T (i + 2)).1 4 a) 5 b) 6 d, (T (i + 2)).2)) (i + 2) (upd ((setT T (i + 2) (upd (upd (upd (T (i + 2)).1 4 a) 5 b) 6 d, (T (i + 2)).2)) (i + 2)).1 7 r9, ((setT T (i + 2) (upd (upd (upd (T (i + 2)).1 4 a) 5 b) 6 d, (T (i + 2)).2)) (i + 2)).2) = setT T (i + 2) (upd (upd (upd (upd (T (i + 2)).1 4 a) 5 b) 6 d) 7 r9, (T (i + 2)).2) := by rw [setT_setT, setT_i]
          have hP : va_P D vwCl ([(r, oR tr ts (ad 0 0) (ad 1 0) (nI n) tick), (tr, oK KF k1 k2 k3), (k1, aI cI 12 S), (k2, aI cI 12 U), (k3, aI cI 12 V), (ts, aQ cT 6 (tq ad n))] ++ blks cI ad (setT T (i + 2) (upd (upd (upd (upd (T (i + 2)).1 4 a) 5 b) 6 d) 7 r9, (T (i + 2)).2)) (n + 2)) H := by rw [← eT]; exact hP
          have hD : va_D A ([(r, oR tr ts (ad 0 0) (ad 1 0) (nI n) tick), (tr, oK KF k1 k2 k3), (k1, aI cI 12 S), (k2, aI cI 12 U), (k3, aI cI 12 V), (ts, aQ cT 6 (tq ad n))] ++ blks cI ad (setT T (i + 2) (upd (upd (upd (upd (T (i + 2)).1 4 a) 5 b) 6 d) 7 r9, (T (i + 2)).2)) (n + 2)) := by rw [← eT]; exact hD
          refine lv_aload hx hb dX2_setCrew_97 (lv_at hl 1 rfl) ?_
          refine lv_iload hx hb dX2_setCrew_99 (lv_at hl 7 rfl) ?_
          refine va_putN (D := D) (ci := 0) (v := .int r9) (ty := .int) (C := RX0) (T := TX0) (N := 20) hx hb hts hiX0 tyX0 tyX0_ok nmX0 hown hK.1 hP hD hS (([(r, oR tr ts (ad 0 0) (ad 1 0) (nI n) tick), (tr, oK KF k1 k2 k3), (k1, aI cI 12 S), (k2, aI cI 12 U), (k3, aI cI 12 V), (ts, aQ cT 6 (tq ad n))] : va_W).length + 4 * (i + 2) + 0) ((xb_get [(r, oR tr ts (ad 0 0) (ad 1 0) (nI n) tick), (tr, oK KF k1 k2 k3), (k1, aI cI 12 S), (k2, aI cI 12 U), (k3, aI cI 12 V), (ts, aQ cT 6 (tq ad n))] cI ad (setT T (i + 2) (upd (upd (upd (upd (T (i + 2)).1 4 a) 5 b) 6 d) 7 r9, (T (i + 2)).2)) (by decide) (show i + 2 < n + 2 by omega)).trans rfl) rfl 12 (by decide) (hK.n (w := .fieldLinkNest RX2 97 "SledgeRace$Team" "rope" "I" "SledgeRace") (by decide +kernel)) (fun _ h9 => h9) rfl (by decide +kernel) rfl rfl (Nat.le_of_ble_eq_true rfl) dX2_setCrew_101 (fun H locs hP hD hS => ?_)
          have hP : va_P D vwCl ([(r, oR tr ts (ad 0 0) (ad 1 0) (nI n) tick), (tr, oK KF k1 k2 k3), (k1, aI cI 12 S), (k2, aI cI 12 U), (k3, aI cI 12 V), (ts, aQ cT 6 (tq ad n))] ++ blks cI ad (setT (setT T (i + 2) (upd (upd (upd (upd (T (i + 2)).1 4 a) 5 b) 6 d) 7 r9, (T (i + 2)).2)) (i + 2) (upd ((setT T (i + 2) (upd (upd (upd (upd (T (i + 2)).1 4 a) 5 b) 6 d) 7 r9, (T (i + 2)).2)) (i + 2)).1 12 r9, ((setT T (i + 2) (upd (upd (upd (upd (T (i + 2)).1 4 a) 5 b) 6 d) 7 r9, (T (i + 2)).2)) (i + 2)).2)) (n + 2)) H := by rw [← blk_set0 [(r, oR tr ts (ad 0 0) (ad 1 0) (nI n) tick), (tr, oK KF k1 k2 k3), (k1, aI cI 12 S), (k2, aI cI 12 U), (k3, aI cI 12 V), (ts, aQ cT 6 (tq ad n))] cI ad (setT T (i + 2) (upd (upd (upd (upd (T (i + 2)).1 4 a) 5 b) 6 d) 7 r9, (T (i + 2)).2)) (upd ((setT T (i + 2) (upd (upd (upd (upd (T (i + 2)).1 4 a) 5 b) 6 d) 7 r9, (T (i + 2)).2)) (i + 2)).1 12 r9) (show i + 2 < n + 2 by omega)]; exact hP
          have hD : va_D A ([(r, oR tr ts (ad 0 0) (ad 1 0) (nI n) tick), (tr, oK KF k1 k2 k3), (k1, aI cI 12 S), (k2, aI cI 12 U), (k3, aI cI 12 V), (ts, aQ cT 6 (tq ad n))] ++ blks cI ad (setT (setT T (i + 2) (upd (upd (upd (upd (T (i + 2)).1 4 a) 5 b) 6 d) 7 r9, (T (i + 2)).2)) (i + 2) (upd ((setT T (i + 2) (upd (upd (upd (upd (T (i + 2)).1 4 a) 5 b) 6 d) 7 r9, (T (i + 2)).2)) (i + 2)).1 12 r9, ((setT T (i + 2) (upd (upd (upd (upd (T (i + 2)).1 4 a) 5 b) 6 d) 7 r9, (T (i + 2)).2)) (i + 2)).2)) (n + 2)) := by rw [← blk_set0 [(r, oR tr ts (ad 0 0) (ad 1 0) (nI n) tick), (tr, oK KF k1 k2 k3), (k1, aI cI 12 S), (k2, aI cI 12 U), (k3, aI cI 12 V), (ts, aQ cT 6 (tq ad n))] cI ad (setT T (i + 2) (upd (upd (upd (upd (T (i + 2)).1 4 a) 5 b) 6 d) 7 r9, (T (i + 2)).2)) (upd ((setT T (i + 2) (upd (upd (upd (upd (T (i + 2)).1 4 a) 5 b) 6 d) 7 r9, (T (i + 2)).2)) (i + 2)).1 12 r9) (show i + 2 < n + 2 by omega)]; exact hD
          have eT : setT (setT T (i + 2) (upd (upd (upd (upd (T (i + 2)).1 4 a) 5 b) 6 d) 7 r9, (T (i + 2)).2)) (i + 2) (upd ((setT T (i + 2) (upd (upd (upd (upd (T (i + 2)).1 4 a) 5 b) 6 d) 7 r9, (T (i + 2)).2)) (i + 2)).1 12 r9, ((setT T (i + 2) (upd (upd (upd (upd (T (i + 2)).1 4 a) 5 b) 6 d) 7 r9, (T (i + 2)).2)) (i + 2)).2) = setT T (i + 2) (upd (upd (upd (upd (upd (T (i + 2)).1 4 a) 5 b) 6 d) 7 r9) 12 r9, (T (i + 2)).2) := by rw [setT_setT, setT_i]
          have hP : va_P D vwCl ([(r, oR tr ts (ad 0 0) (ad 1 0) (nI n) tick), (tr, oK KF k1 k2 k3), (k1, aI cI 12 S), (k2, aI cI 12 U), (k3, aI cI 12 V), (ts, aQ cT 6 (tq ad n))] ++ blks cI ad (setT T (i + 2) (upd (upd (upd (upd (upd (T (i + 2)).1 4 a) 5 b) 6 d) 7 r9) 12 r9, (T (i + 2)).2)) (n + 2)) H := by rw [← eT]; exact hP
          have hD : va_D A ([(r, oR tr ts (ad 0 0) (ad 1 0) (nI n) tick), (tr, oK KF k1 k2 k3), (k1, aI cI 12 S), (k2, aI cI 12 U), (k3, aI cI 12 V), (ts, aQ cT 6 (tq ad n))] ++ blks cI ad (setT T (i + 2) (upd (upd (upd (upd (upd (T (i + 2)).1 4 a) 5 b) 6 d) 7 r9) 12 r9, (T (i + 2)).2)) (n + 2)) := by rw [← eT]; exact hD
          refine lv_iload hx hb dX2_setCrew_104 (lv_at hl 0 rfl) ?_
          have hv9 : rCrew (nI i) a b d r9 n tick T = .inl (((T (i + 2)).1) 4) := by simp [rCrew, c14, c24, c34, c47, hin, hcl, ht]
          have hP9 : va_P D vwCl ([(r, oR tr ts (ad 0 0) (ad 1 0) (nI n) tick), (tr, oK KF k1 k2 k3), (k1, aI cI 12 S), (k2, aI cI 12 U), (k3, aI cI 12 V), (ts, aQ cT 6 (tq ad n))] ++ blks cI ad (setT T ((nI i).toNatClampNeg + 2) (upd (upd (upd (upd (upd (T ((nI i).toNatClampNeg + 2)).1 4 a) 5 b) 6 d) 7 r9) 12 r9, (T ((nI i).toNatClampNeg + 2)).2)) (n + 2)) H := by rw [hcl]; exact hP
          subst hQ
          refine vx_ret (W.widen (k := 2) (n := 12) (Nat.le_of_ble_eq_true rfl) (Nat.le_of_ble_eq_true rfl) ?_)
          exact W.iret hx hb hr (fun t ht hW => ⟨⟨_, (), rfl, hv9, by show va_P D vwCl _ t.heap; rw [ht]; exact hP9⟩, hS.F ht⟩) hS.2.2 dX2_setCrew_106
        · skip
          have c47 : isIn r9 20 400 = false := isIn_not c47
          subst hQ
          exact sp_throw (cls := xIAE) (text := "no such crew can be had") (w := ([(r, oR tr ts (ad 0 0) (ad 1 0) (nI n) tick), (tr, oK KF k1 k2 k3), (k1, aI cI 12 S), (k2, aI cI 12 U), (k3, aI cI 12 V), (ts, aQ cT 6 (tq ad n))] ++ blks cI ad T (n + 2))) (res := fun E => rCrew (nI i) a b d r9 n tick T = .inr E) hx hb hl9 hown sp_fit1 sp_fits (by decide) (hts (.classLink RX2 43 xIAE) (by decide +kernel)) (hts (.initialized xIAE) (by decide +kernel)) hXS.2.1 (fun w hw => hts w (by first | exact List.mem_cons_of_mem _ (List.mem_append_right _ hw) | exact List.mem_cons_of_mem _ (List.mem_append_left _ (List.mem_append_right _ hw)) | exact List.mem_cons_of_mem _ (List.mem_append_left _ (List.mem_append_left _ (List.mem_append_right _ hw))))) sp_ng1 sp_gw1 hXZ hXS hS hP (hl.1.trans hml.symm) dX2_setCrew_50 dX2_setCrew_53 dX2_setCrew_54 dX2_setCrew_56 dX2_setCrew_59 hex (Nat.le_of_ble_eq_true rfl) (Nat.le_of_ble_eq_true rfl) (Nat.le_of_ble_eq_true rfl) (Nat.le_of_ble_eq_true rfl) hlocks (Nat.le_of_ble_eq_true rfl) (Nat.le_of_ble_eq_true rfl) (show rCrew (nI i) a b d r9 n tick T = .inr xIAE from by simp [rCrew, c14, c24, c34, c47, hin, hcl])

abbrev rmX2_order : Room := { frames := 7, cells := 2, slots := 12, locals := 104 }
set_option maxHeartbeats 4000000 in
set_option maxRecDepth 100000 in
/-- order -/
theorem mX2_order (l : Launch) (D : va_G) (cI cT : ClassId) (hl9 : l.stackTraces = false) (sz : Nat) (r tr k1 k2 k3 ts : Nat) (ad : Nat → Nat → Nat) (n : Nat) (hn : n ≤ 6) (tick : Int32) (KF S U V : Nat → Int32) (T : Nat → TV) (x a b : Int32) : MetO l D cI cT yX2_order wsX2_order rmX2_order [.ref r, .int x, .int a, .int b] ([(r, oR tr ts (ad 0 0) (ad 1 0) (nI n) tick), (tr, oK KF k1 k2 k3), (k1, aI cI 12 S), (k2, aI cI 12 U), (k3, aI cI 12 V), (ts, aQ cT 6 (tq ad n))] ++ blks cI ad T (n + 2)) ([(r, oR tr ts (ad 0 0) (ad 1 0) (nI n) tick), (tr, oK KF k1 k2 k3), (k1, aI cI 12 S), (k2, aI cI 12 U), (k3, aI cI 12 V), (ts, aQ cT 6 (tq ad n))] ++ blks cI ad (setT T (x.toNatClampNeg + 2) (upd (upd (T (x.toNatClampNeg + 2)).1 8 a) 9 b, (T (x.toNatClampNeg + 2)).2)) (n + 2)) (rOrder x a b n T) 2 12 sz := by
  refine vx_ofW (cc := cX2_order) (maxL := 6) (ret := (some .int)) (by decide) rfl ?_
  intro p e s m args below meth c s₁ B hml hex hv
  obtain ⟨⟨hargs, hsz, hP, hR0, hK, hN⟩, hXZ, hXS⟩ := hv
  subst hsz
  have hAO := hXS.2.2.2.2.1
  have hx := B.exec
  have hb := B.bytes
  have hr := B.returns
  have hts := atoms_spec (ws := wsX2_order) B.pre
  have hown : s.vm.findClass RX2 = some m.cls := findClass_of_methodNamed B.named
  have hlocks := B.notSynchronized
  have hiX0 : ∀ w ∈ u_ws RX0 TX0 20, w ∈ wsX2_order := by decide +kernel
  have hiX2 : ∀ w ∈ u_ws RX2 TX2 6, w ∈ wsX2_order := by decide +kernel
  have he : entryFrame m args 6 = F0 m 0 ((lg_sl [.ref r, .int x, .int a, .int b] ++ List.replicate (6 - (lg_sl [.ref r, .int x, .int a, .int b]).length) Slot.unset).toArray) [] := by rw [hargs]; exact lg_entry_eq m _ _
  rw [he]
  change W p l e rmX2_order s m args below meth c s.heap [] 0 0 (vx_MQ below (va_Qi (S := Unit) (fun z _ => rOrder x a b n T = .inl z) (fun _ t => va_P D vwCl ([(r, oR tr ts (ad 0 0) (ad 1 0) (nI n) tick), (tr, oK KF k1 k2 k3), (k1, aI cI 12 S), (k2, aI cI 12 U), (k3, aI cI 12 V), (ts, aQ cT 6 (tq ad n))] ++ blks cI ad (setT T (x.toNatClampNeg + 2) (upd (upd (T (x.toNatClampNeg + 2)).1 8 a) 9 b, (T (x.toNatClampNeg + 2)).2)) (n + 2)) t.heap) (frA (List.map Prod.fst ([(r, oR tr ts (ad 0 0) (ad 1 0) (nI n) tick), (tr, oK KF k1 k2 k3), (k1, aI cI 12 S), (k2, aI cI 12 U), (k3, aI cI 12 V), (ts, aQ cT 6 (tq ad n))] ++ blks cI ad T (n + 2))) s.heap.size)) (XO D ([(r, oR tr ts (ad 0 0) (ad 1 0) (nI n) tick), (tr, oK KF k1 k2 k3), (k1, aI cI 12 S), (k2, aI cI 12 U), (k3, aI cI 12 V), (ts, aQ cT 6 (tq ad n))] ++ blks cI ad T (n + 2)) (fun E => rOrder x a b n T = .inr E) (frA (List.map Prod.fst ([(r, oR tr ts (ad 0 0) (ad 1 0) (nI n) tick), (tr, oK KF k1 k2 k3), (k1, aI cI 12 S), (k2, aI cI 12 U), (k3, aI cI 12 V), (ts, aQ cT 6 (tq ad n))] ++ blks cI ad T (n + 2))) s.heap.size)) args s 2 12 (frA (List.map Prod.fst ([(r, oR tr ts (ad 0 0) (ad 1 0) (nI n) tick), (tr, oK KF k1 k2 k3), (k1, aI cI 12 S), (k2, aI cI 12 U), (k3, aI cI 12 V), (ts, aQ cT 6 (tq ad n))] ++ blks cI ad T (n + 2))) s.heap.size)) _
  obtain ⟨A, hAe⟩ : ∃ A, A = (frA (List.map Prod.fst ([(r, oR tr ts (ad 0 0) (ad 1 0) (nI n) tick), (tr, oK KF k1 k2 k3), (k1, aI cI 12 S), (k2, aI cI 12 U), (k3, aI cI 12 V), (ts, aQ cT 6 (tq ad n))] ++ blks cI ad T (n + 2))) s.heap.size) := ⟨_, rfl⟩
  rw [← hAe]
  have hXZ : XZ A s s.heap := by rw [hAe]; exact hXZ
  obtain ⟨Q, hQ⟩ : ∃ Q, Q = vx_MQ below (va_Qi (S := Unit) (fun z _ => rOrder x a b n T = .inl z) (fun _ t => va_P D vwCl ([(r, oR tr ts (ad 0 0) (ad 1 0) (nI n) tick), (tr, oK KF k1 k2 k3), (k1, aI cI 12 S), (k2, aI cI 12 U), (k3, aI cI 12 V), (ts, aQ cT 6 (tq ad n))] ++ blks cI ad (setT T (x.toNatClampNeg + 2) (upd (upd (T (x.toNatClampNeg + 2)).1 8 a) 9 b, (T (x.toNatClampNeg + 2)).2)) (n + 2)) t.heap) A) (XO D ([(r, oR tr ts (ad 0 0) (ad 1 0) (nI n) tick), (tr, oK KF k1 k2 k3), (k1, aI cI 12 S), (k2, aI cI 12 U), (k3, aI cI 12 V), (ts, aQ cT 6 (tq ad n))] ++ blks cI ad T (n + 2)) (fun E => rOrder x a b n T = .inr E) A) args s 2 12 A := ⟨_, rfl⟩
  rw [← hQ]
  have hl := lv_entry [.ref r, .int x, .int a, .int b] (n := 6) (Nat.le_of_ble_eq_true rfl)
  generalize (lg_sl [.ref r, .int x, .int a, .int b] ++ List.replicate (6 - (lg_sl [.ref r, .int x, .int a, .int b]).length) Slot.unset).toArray = ls at hl ⊢
  have hl : lv_has ls 6 [(0, .ref r), (1, .int x), (2, .int a), (3, .int b)] := hl
  have hA0 : ∀ q ∈ List.map Prod.fst ([(r, oR tr ts (ad 0 0) (ad 1 0) (nI n) tick), (tr, oK KF k1 k2 k3), (k1, aI cI 12 S), (k2, aI cI 12 U), (k3, aI cI 12 V), (ts, aQ cT 6 (tq ad n))] ++ blks cI ad T (n + 2)), A q := by rw [hAe]; exact fun q h => Or.inl h
  have hA : ∀ q : Nat, s.heap.size ≤ q → A q := by rw [hAe]; exact fun q h => Or.inr h
  have hD : va_D A ([(r, oR tr ts (ad 0 0) (ad 1 0) (nI n) tick), (tr, oK KF k1 k2 k3), (k1, aI cI 12 S), (k2, aI cI 12 U), (k3, aI cI 12 V), (ts, aQ cT 6 (tq ad n))] ++ blks cI ad T (n + 2)) := sp_D (List.nodup_append.mp (show ((([(r, oR tr ts (ad 0 0) (ad 1 0) (nI n) tick), (tr, oK KF k1 k2 k3), (k1, aI cI 12 S), (k2, aI cI 12 U), (k3, aI cI 12 V), (ts, aQ cT 6 (tq ad n))] ++ blks cI ad T (n + 2)) : va_W).map Prod.fst ++ ([] : va_W).map Prod.fst).Nodup by rw [← List.map_append]; exact hN)).1 hA0
  have hN : (List.map Prod.fst (([(r, oR tr ts (ad 0 0) (ad 1 0) (nI n) tick), (tr, oK KF k1 k2 k3), (k1, aI cI 12 S), (k2, aI cI 12 U), (k3, aI cI 12 V), (ts, aQ cT 6 (tq ad n))] ++ blks cI ad T (n + 2)) ++ []) : List Nat).Nodup := hN
  have hS : va_S A s.heap s.heap [] := va_S.rf
  obtain ⟨H, hH0⟩ : ∃ H, H = s.heap := ⟨_, rfl⟩
  obtain ⟨locs, hlo⟩ : ∃ L : List Loc, L = [] := ⟨_, rfl⟩
  have hP : va_P D vwCl ([(r, oR tr ts (ad 0 0) (ad 1 0) (nI n) tick), (tr, oK KF k1 k2 k3), (k1, aI cI 12 S), (k2, aI cI 12 U), (k3, aI cI 12 V), (ts, aQ cT 6 (tq ad n))] ++ blks cI ad T (n + 2)) H := by rw [hH0]; exact hP
  have hS : va_S A s.heap H locs := by rw [hH0, hlo]; exact hS
  rw [show W p l e rmX2_order s m args below meth c s.heap [] 0 0 Q (F0 m 0 ls []) = W p l e rmX2_order s m args below meth c H locs 0 0 Q (F0 m 0 ls []) by rw [hH0, hlo]]
  clear hH0 hlo
  refine lv_aload_n hx hb dX2_order_0 rfl (lv_at hl 0 rfl) ?_
  refine lv_iload_n hx hb dX2_order_1 rfl (lv_at hl 1 rfl) ?_
  refine sp_oR (rest := []) (As := [.int x]) (W1 := ([(r, oR tr ts (ad 0 0) (ad 1 0) (nI n) tick), (tr, oK KF k1 k2 k3), (k1, aI cI 12 S), (k2, aI cI 12 U), (k3, aI cI 12 V), (ts, aQ cT 6 (tq ad n))] ++ blks cI ad T (n + 2))) (ci := 2) (w := ([(r, oR tr ts (ad 0 0) (ad 1 0) (nI n) tick), (tr, oK KF k1 k2 k3), (k1, aI cI 12 S), (k2, aI cI 12 U), (k3, aI cI 12 V), (ts, aQ cT 6 (tq ad n))] ++ blks cI ad T (n + 2))) (rs := fun E => rOrder x a b n T = .inr E) ⟨hx, hb, hml, hown, hts⟩ (mX2_teamNumbered l D cI cT hl9 H.size r tr k1 k2 k3 ts ad n hn tick KF S U V T x) (cwV 1 hts gX2_order_X2_teamNumbered rfl rfl rfl (by decide +kernel) ⟨Nat.le_of_ble_eq_true rfl, Nat.le_of_ble_eq_true rfl⟩) hK hXZ hXS hP hD hS hA (xb_fst rfl cI ad _ _ (n + 2)) rfl rfl rfl rfl hl.1 rfl (Nat.le_of_ble_eq_true rfl) dX2_order_2 ⟨Nat.le_of_ble_eq_true rfl, Nat.le_of_ble_eq_true rfl⟩ hex hlocks rfl (fun E hE => by obtain ⟨hin, rfl⟩ := teamR_inr hE; simp [rOrder, hin]) (Nat.le_of_ble_eq_true rfl) (Nat.le_of_ble_eq_true rfl) hQ (fun ra H locs hres hP hD hS => ?_)
  obtain ⟨i, cin, rfl, rfl⟩ := teamR_inl hn hres
  have hin : isIn (nI i) 0 (nI n - 1) = true := isIn_lt (by omega) cin
  have hcl : (nI i).toNatClampNeg = i := nI_clamp (by omega)
  refine lv_astore (lv' := [(4, .ref (ad (i + 2) 0)), (0, .ref r), (1, .int (nI i)), (2, .int a), (3, .int b)]) hx hb dX2_order_5 hl (by decide) rfl (fun ls hl => ?_)
  refine lv_iload_n hx hb dX2_order_7 rfl (lv_at hl 3 rfl) ?_
  refine lv_iconst (v := 0) hx hb dX2_order_8 (by decide) ?_
  refine lv_bipush (v := 10) hx hb dX2_order_9 (by decide) ?_
  refine sp_rS (rest := []) (As := [.int a, .int 0, .int 10]) ⟨hx, hb, hml, hown, hts⟩ (mX2_isOutside l D cI cT a 0 10) (va_cwS 3 hts gX2_order_X2_isOutside rfl rfl rfl (by decide +kernel) ⟨Nat.le_of_ble_eq_true rfl, Nat.le_of_ble_eq_true rfl⟩) hK (show va_P D vwCl [] _ from fun k q h => by simp at h) rfl hl.1 rfl (Nat.le_of_ble_eq_true rfl) dX2_order_11 ⟨Nat.le_of_ble_eq_true rfl, Nat.le_of_ble_eq_true rfl⟩ ?_
  refine sp_if_ne (tgt := 27) hx hb dX2_order_14 (by decide) (fun c14 => ?_) (fun c14 => ?_)
  · skip
    have c14 : isIn a 0 10 = false := isIn_not c14
    subst hQ
    exact sp_throw (cls := xIAE) (text := "no team can race like this") (w := ([(r, oR tr ts (ad 0 0) (ad 1 0) (nI n) tick), (tr, oK KF k1 k2 k3), (k1, aI cI 12 S), (k2, aI cI 12 U), (k3, aI cI 12 V), (ts, aQ cT 6 (tq ad n))] ++ blks cI ad T (n + 2))) (res := fun E => rOrder (nI i) a b n T = .inr E) hx hb hl9 hown sp_fit1 sp_fits (by decide) (hts (.classLink RX2 43 xIAE) (by decide +kernel)) (hts (.initialized xIAE) (by decide +kernel)) hXS.2.1 (fun w hw => hts w (by first | exact List.mem_cons_of_mem _ (List.mem_append_right _ hw) | exact List.mem_cons_of_mem _ (List.mem_append_left _ (List.mem_append_right _ hw)) | exact List.mem_cons_of_mem _ (List.mem_append_left _ (List.mem_append_left _ (List.mem_append_right _ hw))))) sp_ng1 sp_gw1 hXZ hXS hS hP (hl.1.trans hml.symm) dX2_order_27 dX2_order_30 dX2_order_31 dX2_order_33 dX2_order_36 hex (Nat.le_of_ble_eq_true rfl) (Nat.le_of_ble_eq_true rfl) (Nat.le_of_ble_eq_true rfl) (Nat.le_of_ble_eq_true rfl) hlocks (Nat.le_of_ble_eq_true rfl) (Nat.le_of_ble_eq_true rfl) (show rOrder (nI i) a b n T = .inr xIAE from by simp [rOrder, c14, hin, hcl])
  · skip
    have c14 : isIn a 0 10 = true := isIn_not c14
    refine lv_iload_n hx hb dX2_order_17 rfl (lv_at hl 4 rfl) ?_
    refine lv_iconst (v := 1) hx hb dX2_order_18 (by decide) ?_
    refine lv_bipush (v := 40) hx hb dX2_order_19 (by decide) ?_
    refine sp_rS (rest := []) (As := [.int b, .int 1, .int 40]) ⟨hx, hb, hml, hown, hts⟩ (mX2_isOutside l D cI cT b 1 40) (va_cwS 3 hts gX2_order_X2_isOutside rfl rfl rfl (by decide +kernel) ⟨Nat.le_of_ble_eq_true rfl, Nat.le_of_ble_eq_true rfl⟩) hK (show va_P D vwCl [] _ from fun k q h => by simp at h) rfl hl.1 rfl (Nat.le_of_ble_eq_true rfl) dX2_order_21 ⟨Nat.le_of_ble_eq_true rfl, Nat.le_of_ble_eq_true rfl⟩ ?_
    refine sp_if_eq (tgt := 37) hx hb dX2_order_24 (by decide) (fun c24 => ?_) (fun c24 => ?_)
    · skip
      have c24 : isIn b 1 40 = true := isIn_not c24
      refine lv_aload hx hb dX2_order_37 (lv_at hl 0 rfl) ?_
      refine va_getN (D := D) (ci := 0) (v := .int (((T (i + 2)).1) 8)) (C := RX0) (T := TX0) (N := 20) hx hb hts hiX0 hown hK.1 (blk_P hP (show i + 2 < n + 2 by omega)) 0 rfl rfl 8 (by decide) (hK.n (w := .fieldLinkNest RX2 102 "SledgeRace$Team" "effort" "I" "SledgeRace") (by decide +kernel)) (fun _ h9 => h9) rfl dX2_order_39 ?_
      refine lv_istore (lv' := [(5, .int (((T (i + 2)).1) 8)), (4, .ref (ad (i + 2) 0)), (0, .ref r), (1, .int (nI i)), (2, .int a), (3, .int b)]) hx hb dX2_order_42 hl (by decide) rfl (fun ls hl => ?_)
      refine lv_aload hx hb dX2_order_44 (lv_at hl 1 rfl) ?_
      refine lv_iload_n hx hb dX2_order_46 rfl (lv_at hl 4 rfl) ?_
      refine va_putN (D := D) (ci := 0) (v := .int a) (ty := .int) (C := RX0) (T := TX0) (N := 20) hx hb hts hiX0 tyX0 tyX0_ok nmX0 hown hK.1 hP hD hS (([(r, oR tr ts (ad 0 0) (ad 1 0) (nI n) tick), (tr, oK KF k1 k2 k3), (k1, aI cI 12 S), (k2, aI cI 12 U), (k3, aI cI 12 V), (ts, aQ cT 6 (tq ad n))] : va_W).length + 4 * (i + 2) + 0) ((xb_get [(r, oR tr ts (ad 0 0) (ad 1 0) (nI n) tick), (tr, oK KF k1 k2 k3), (k1, aI cI 12 S), (k2, aI cI 12 U), (k3, aI cI 12 V), (ts, aQ cT 6 (tq ad n))] cI ad T (by decide) (show i + 2 < n + 2 by omega)).trans rfl) rfl 8 (by decide) (hK.n (w := .fieldLinkNest RX2 102 "SledgeRace$Team" "effort" "I" "SledgeRace") (by decide +kernel)) (fun _ h9 => h9) rfl (by decide +kernel) rfl rfl (Nat.le_of_ble_eq_true rfl) dX2_order_47 (fun H locs hP hD hS => ?_)
      have hP : va_P D vwCl ([(r, oR tr ts (ad 0 0) (ad 1 0) (nI n) tick), (tr, oK KF k1 k2 k3), (k1, aI cI 12 S), (k2, aI cI 12 U), (k3, aI cI 12 V), (ts, aQ cT 6 (tq ad n))] ++ blks cI ad (setT T (i + 2) (upd (T (i + 2)).1 8 a, (T (i + 2)).2)) (n + 2)) H := by rw [← blk_set0 [(r, oR tr ts (ad 0 0) (ad 1 0) (nI n) tick), (tr, oK KF k1 k2 k3), (k1, aI cI 12 S), (k2, aI cI 12 U), (k3, aI cI 12 V), (ts, aQ cT 6 (tq ad n))] cI ad T (upd (T (i + 2)).1 8 a) (show i + 2 < n + 2 by omega)]; exact hP
      have hD : va_D A ([(r, oR tr ts (ad 0 0) (ad 1 0) (nI n) tick), (tr, oK KF k1 k2 k3), (k1, aI cI 12 S), (k2, aI cI 12 U), (k3, aI cI 12 V), (ts, aQ cT 6 (tq ad n))] ++ blks cI ad (setT T (i + 2) (upd (T (i + 2)).1 8 a, (T (i + 2)).2)) (n + 2)) := by rw [← blk_set0 [(r, oR tr ts (ad 0 0) (ad 1 0) (nI n) tick), (tr, oK KF k1 k2 k3), (k1, aI cI 12 S), (k2, aI cI 12 U), (k3, aI cI 12 V), (ts, aQ cT 6 (tq ad n))] cI ad T (upd (T (i + 2)).1 8 a) (show i + 2 < n + 2 by omega)]; exact hD
      refine lv_aload hx hb dX2_order_50 (lv_at hl 1 rfl) ?_
      refine lv_iload_n hx hb dX2_order_52 rfl (lv_at hl 5 rfl) ?_
      refine va_putN (D := D) (ci := 0) (v := .int b) (ty := .int) (C := RX0) (T := TX0) (N := 20) hx hb hts hiX0 tyX0 tyX0_ok nmX0 hown hK.1 hP hD hS (([(r, oR tr ts (ad 0 0) (ad 1 0) (nI n) tick), (tr, oK KF k1 k2 k3), (k1, aI cI 12 S), (k2, aI cI 12 U), (k3, aI cI 12 V), (ts, aQ cT 6 (tq ad n))] : va_W).length + 4 * (i + 2) + 0) ((xb_get [(r, oR tr ts (ad 0 0) (ad 1 0) (nI n) tick), (tr, oK KF k1 k2 k3), (k1, aI cI 12 S), (k2, aI cI 12 U), (k3, aI cI 12 V), (ts, aQ cT 6 (tq ad n))] cI ad (setT T (i + 2) (upd (T (i + 2)).1 8 a, (T (i + 2)).2)) (by decide) (show i + 2 < n + 2 by omega)).trans rfl) rfl 9 (by decide) (hK.n (w := .fieldLinkNest RX2 105 "SledgeRace$Team" "gap" "I" "SledgeRace") (by decide +kernel)) (fun _ h9 => h9) rfl (by decide +kernel) rfl rfl (Nat.le_of_ble_eq_true rfl) dX2_order_53 (fun H locs hP hD hS => ?_)
      have hP : va_P D vwCl ([(r, oR tr ts (ad 0 0) (ad 1 0) (nI n) tick), (tr, oK KF k1 k2 k3), (k1, aI cI 12 S), (k2, aI cI 12 U), (k3, aI cI 12 V), (ts, aQ cT 6 (tq ad n))] ++ blks cI ad (setT (setT T (i + 2) (upd (T (i + 2)).1 8 a, (T (i + 2)).2)) (i + 2) (upd ((setT T (i + 2) (upd (T (i + 2)).1 8 a, (T (i + 2)).2)) (i + 2)).1 9 b, ((setT T (i + 2) (upd (T (i + 2)).1 8 a, (T (i + 2)).2)) (i + 2)).2)) (n + 2)) H := by rw [← blk_set0 [(r, oR tr ts (ad 0 0) (ad 1 0) (nI n) tick), (tr, oK KF k1 k2 k3), (k1, aI cI 12 S), (k2, aI cI 12 U), (k3, aI cI 12 V), (ts, aQ cT 6 (tq ad n))] cI ad (setT T (i + 2) (upd (T (i + 2)).1 8 a, (T (i + 2)).2)) (upd ((setT T (i + 2) (upd (T (i + 2)).1 8 a, (T (i + 2)).2)) (i + 2)).1 9 b) (show i + 2 < n + 2 by omega)]; exact hP
      have hD : va_D A ([(r, oR tr ts (ad 0 0) (ad 1 0) (nI n) tick), (tr, oK KF k1 k2 k3), (k1, aI cI 12 S), (k2, aI cI 12 U), (k3, aI cI 12 V), (ts, aQ cT 6 (tq ad n))] ++ blks cI ad (setT (setT T (i + 2) (upd (T (i + 2)).1 8 a, (T (i + 2)).2)) (i + 2) (upd ((setT T (i + 2) (upd (T (i + 2)).1 8 a, (T (i + 2)).2)) (i + 2)).1 9 b, ((setT T (i + 2) (upd (T (i + 2)).1 8 a, (T (i + 2)).2)) (i + 2)).2)) (n + 2)) := by rw [← blk_set0 [(r, oR tr ts (ad 0 0) (ad 1 0) (nI n) tick), (tr, oK KF k1 k2 k3), (k1, aI cI 12 S), (k2, aI cI 12 U), (k3, aI cI 12 V), (ts, aQ cT 6 (tq ad n))] cI ad (setT T (i + 2) (upd (T (i + 2)).1 8 a, (T (i + 2)).2)) (upd ((setT T (i + 2) (upd (T (i + 2)).1 8 a, (T (i + 2)).2)) (i + 2)).1 9 b) (show i + 2 < n + 2 by omega)]; exact hD
      have eT : setT (setT T (i + 2) (upd (T (i + 2)).1 8 a, (T (i + 2)).2)) (i + 2) (upd ((setT T (i + 2) (upd (T (i + 2)).1 8 a, (T (i + 2)).2)) (i + 2)).1 9 b, ((setT T (i + 2) (upd (T (i + 2)).1 8 a, (T (i + 2)).2)) (i + 2)).2) = setT T (i + 2) (upd (upd (T (i + 2)).1 8 a) 9 b, (T (i + 2)).2) := by rw [setT_setT, setT_i]
      have hP : va_P D vwCl ([(r, oR tr ts (ad 0 0) (ad 1 0) (nI n) tick), (tr, oK KF k1 k2 k3), (k1, aI cI 12 S), (k2, aI cI 12 U), (k3, aI cI 12 V), (ts, aQ cT 6 (tq ad n))] ++ blks cI ad (setT T (i + 2) (upd (upd (T (i + 2)).1 8 a) 9 b, (T (i + 2)).2)) (n + 2)) H := by rw [← eT]; exact hP
      have hD : va_D A ([(r, oR tr ts (ad 0 0) (ad 1 0) (nI n) tick), (tr, oK KF k1 k2 k3), (k1, aI cI 12 S), (k2, aI cI 12 U), (k3, aI cI 12 V), (ts, aQ cT 6 (tq ad n))] ++ blks cI ad (setT T (i + 2) (upd (upd (T (i + 2)).1 8 a) 9 b, (T (i + 2)).2)) (n + 2)) := by rw [← eT]; exact hD
      refine lv_iload hx hb dX2_order_56 (lv_at hl 0 rfl) ?_
      have hv9 : rOrder (nI i) a b n T = .inl (((T (i + 2)).1) 8) := by simp [rOrder, c14, c24, hin, hcl]
      have hP9 : va_P D vwCl ([(r, oR tr ts (ad 0 0) (ad 1 0) (nI n) tick), (tr, oK KF k1 k2 k3), (k1, aI cI 12 S), (k2, aI cI 12 U), (k3, aI cI 12 V), (ts, aQ cT 6 (tq ad n))] ++ blks cI ad (setT T ((nI i).toNatClampNeg + 2) (upd (upd (T ((nI i).toNatClampNeg + 2)).1 8 a) 9 b, (T ((nI i).toNatClampNeg + 2)).2)) (n + 2)) H := by rw [hcl]; exact hP
      subst hQ
      refine vx_ret (W.widen (k := 2) (n := 12) (Nat.le_of_ble_eq_true rfl) (Nat.le_of_ble_eq_true rfl) ?_)
      exact W.iret hx hb hr (fun t ht hW => ⟨⟨_, (), rfl, hv9, by show va_P D vwCl _ t.heap; rw [ht]; exact hP9⟩, hS.F ht⟩) hS.2.2 dX2_order_58
    · skip
      have c24 : isIn b 1 40 = false := isIn_not c24
      subst hQ
      exact sp_throw (cls := xIAE) (text := "no team can race like this") (w := ([(r, oR tr ts (ad 0 0) (ad 1 0) (nI n) tick), (tr, oK KF k1 k2 k3), (k1, aI cI 12 S), (k2, aI cI 12 U), (k3, aI cI 12 V), (ts, aQ cT 6 (tq ad n))] ++ blks cI ad T (n + 2))) (res := fun E => rOrder (nI i) a b n T = .inr E) hx hb hl9 hown sp_fit1 sp_fits (by decide) (hts (.classLink RX2 43 xIAE) (by decide +kernel)) (hts (.initialized xIAE) (by decide +kernel)) hXS.2.1 (fun w hw => hts w (by first | exact List.mem_cons_of_mem _ (List.mem_append_right _ hw) | exact List.mem_cons_of_mem _ (List.mem_append_left _ (List.mem_append_right _ hw)) | exact List.mem_cons_of_mem _ (List.mem_append_left _ (List.mem_append_left _ (List.mem_append_right _ hw))))) sp_ng1 sp_gw1 hXZ hXS hS hP (hl.1.trans hml.symm) dX2_order_27 dX2_order_30 dX2_order_31 dX2_order_33 dX2_order_36 hex (Nat.le_of_ble_eq_true rfl) (Nat.le_of_ble_eq_true rfl) (Nat.le_of_ble_eq_true rfl) (Nat.le_of_ble_eq_true rfl) hlocks (Nat.le_of_ble_eq_true rfl) (Nat.le_of_ble_eq_true rfl) (show rOrder (nI i) a b n T = .inr xIAE from by simp [rOrder, c14, c24, hin, hcl])

abbrev rmX2_count : Room := { frames := 6, cells := 1, slots := 6, locals := 82 }
set_option maxHeartbeats 4000000 in
set_option maxRecDepth 100000 in
/-- count -/
theorem mX2_count (l : Launch) (D : va_G) (cI cT : ClassId) (hl9 : l.stackTraces = false) (sz : Nat) (r tr k1 k2 k3 ts : Nat) (ad : Nat → Nat → Nat) (n : Nat) (hn : n ≤ 6) (tick : Int32) (KF S U V : Nat → Int32) (T : Nat → TV) (w : Int32) : MetO l D cI cT yX2_count wsX2_count rmX2_count [.ref r, .int w] ([(r, oR tr ts (ad 0 0) (ad 1 0) (nI n) tick), (tr, oK KF k1 k2 k3), (k1, aI cI 12 S), (k2, aI cI 12 U), (k3, aI cI 12 V), (ts, aQ cT 6 (tq ad n))] ++ blks cI ad T (n + 2)) ([(r, oR tr ts (ad 0 0) (ad 1 0) (nI n) tick), (tr, oK KF k1 k2 k3), (k1, aI cI 12 S), (k2, aI cI 12 U), (k3, aI cI 12 V), (ts, aQ cT 6 (tq ad n))] ++ blks cI ad T (n + 2)) (rCount w KF T n tick) 1 6 sz := by
  refine vx_ofW (cc := cX2_count) (maxL := 2) (ret := (some .int)) (by decide) rfl ?_
  intro p e s m args below meth c s₁ B hml hex hv
  obtain ⟨⟨hargs, hsz, hP, hR0, hK, hN⟩, hXZ, hXS⟩ := hv
  subst hsz
  have hAO := hXS.2.2.2.2.1
  have hx := B.exec
  have hb := B.bytes
  have hr := B.returns
  have hts := atoms_spec (ws := wsX2_count) B.pre
  have hown : s.vm.findClass RX2 = some m.cls := findClass_of_methodNamed B.named
  have hlocks := B.notSynchronized
  have hiX2 : ∀ w ∈ u_ws RX2 TX2 6, w ∈ wsX2_count := by decide +kernel
  have he : entryFrame m args 2 = F0 m 0 ((lg_sl [.ref r, .int w] ++ List.replicate (2 - (lg_sl [.ref r, .int w]).length) Slot.unset).toArray) [] := by rw [hargs]; exact lg_entry_eq m _ _
  rw [he]
  change W p l e rmX2_count s m args below meth c s.heap [] 0 0 (vx_MQ below (va_Qi (S := Unit) (fun z _ => rCount w KF T n tick = .inl z) (fun _ t => va_P D vwCl ([(r, oR tr ts (ad 0 0) (ad 1 0) (nI n) tick), (tr, oK KF k1 k2 k3), (k1, aI cI 12 S), (k2, aI cI 12 U), (k3, aI cI 12 V), (ts, aQ cT 6 (tq ad n))] ++ blks cI ad T (n + 2)) t.heap) (frA (List.map Prod.fst ([(r, oR tr ts (ad 0 0) (ad 1 0) (nI n) tick), (tr, oK KF k1 k2 k3), (k1, aI cI 12 S), (k2, aI cI 12 U), (k3, aI cI 12 V), (ts, aQ cT 6 (tq ad n))] ++ blks cI ad T (n + 2))) s.heap.size)) (XO D ([(r, oR tr ts (ad 0 0) (ad 1 0) (nI n) tick), (tr, oK KF k1 k2 k3), (k1, aI cI 12 S), (k2, aI cI 12 U), (k3, aI cI 12 V), (ts, aQ cT 6 (tq ad n))] ++ blks cI ad T (n + 2)) (fun E => rCount w KF T n tick = .inr E) (frA (List.map Prod.fst ([(r, oR tr ts (ad 0 0) (ad 1 0) (nI n) tick), (tr, oK KF k1 k2 k3), (k1, aI cI 12 S), (k2, aI cI 12 U), (k3, aI cI 12 V), (ts, aQ cT 6 (tq ad n))] ++ blks cI ad T (n + 2))) s.heap.size)) args s 1 6 (frA (List.map Prod.fst ([(r, oR tr ts (ad 0 0) (ad 1 0) (nI n) tick), (tr, oK KF k1 k2 k3), (k1, aI cI 12 S), (k2, aI cI 12 U), (k3, aI cI 12 V), (ts, aQ cT 6 (tq ad n))] ++ blks cI ad T (n + 2))) s.heap.size)) _
  obtain ⟨A, hAe⟩ : ∃ A, A = (frA (List.map Prod.fst ([(r, oR tr ts (ad 0 0) (ad 1 0) (nI n) tick), (tr, oK KF k1 k2 k3), (k1, aI cI 12 S), (k2, aI cI 12 U), (k3, aI cI 12 V), (ts, aQ cT 6 (tq ad n))] ++ blks cI ad T (n + 2))) s.heap.size) := ⟨_, rfl⟩
  rw [← hAe]
  have hXZ : XZ A s s.heap := by rw [hAe]; exact hXZ
  obtain ⟨Q, hQ⟩ : ∃ Q, Q = vx_MQ below (va_Qi (S := Unit) (fun z _ => rCount w KF T n tick = .inl z) (fun _ t => va_P D vwCl ([(r, oR tr ts (ad 0 0) (ad 1 0) (nI n) tick), (tr, oK KF k1 k2 k3), (k1, aI cI 12 S), (k2, aI cI 12 U), (k3, aI cI 12 V), (ts, aQ cT 6 (tq ad n))] ++ blks cI ad T (n + 2)) t.heap) A) (XO D ([(r, oR tr ts (ad 0 0) (ad 1 0) (nI n) tick), (tr, oK KF k1 k2 k3), (k1, aI cI 12 S), (k2, aI cI 12 U), (k3, aI cI 12 V), (ts, aQ cT 6 (tq ad n))] ++ blks cI ad T (n + 2)) (fun E => rCount w KF T n tick = .inr E) A) args s 1 6 A := ⟨_, rfl⟩
  rw [← hQ]
  have hl := lv_entry [.ref r, .int w] (n := 2) (Nat.le_of_ble_eq_true rfl)
  generalize (lg_sl [.ref r, .int w] ++ List.replicate (2 - (lg_sl [.ref r, .int w]).length) Slot.unset).toArray = ls at hl ⊢
  have hl : lv_has ls 2 [(0, .ref r), (1, .int w)] := hl
  have hA0 : ∀ q ∈ List.map Prod.fst ([(r, oR tr ts (ad 0 0) (ad 1 0) (nI n) tick), (tr, oK KF k1 k2 k3), (k1, aI cI 12 S), (k2, aI cI 12 U), (k3, aI cI 12 V), (ts, aQ cT 6 (tq ad n))] ++ blks cI ad T (n + 2)), A q := by rw [hAe]; exact fun q h => Or.inl h
  have hA : ∀ q : Nat, s.heap.size ≤ q → A q := by rw [hAe]; exact fun q h => Or.inr h
  have hD : va_D A ([(r, oR tr ts (ad 0 0) (ad 1 0) (nI n) tick), (tr, oK KF k1 k2 k3), (k1, aI cI 12 S), (k2, aI cI 12 U), (k3, aI cI 12 V), (ts, aQ cT 6 (tq ad n))] ++ blks cI ad T (n + 2)) := sp_D (List.nodup_append.mp (show ((([(r, oR tr ts (ad 0 0) (ad 1 0) (nI n) tick), (tr, oK KF k1 k2 k3), (k1, aI cI 12 S), (k2, aI cI 12 U), (k3, aI cI 12 V), (ts, aQ cT 6 (tq ad n))] ++ blks cI ad T (n + 2)) : va_W).map Prod.fst ++ ([] : va_W).map Prod.fst).Nodup by rw [← List.map_append]; exact hN)).1 hA0
  have hN : (List.map Prod.fst (([(r, oR tr ts (ad 0 0) (ad 1 0) (nI n) tick), (tr, oK KF k1 k2 k3), (k1, aI cI 12 S), (k2, aI cI 12 U), (k3, aI cI 12 V), (ts, aQ cT 6 (tq ad n))] ++ blks cI ad T (n + 2)) ++ []) : List Nat).Nodup := hN
  have hS : va_S A s.heap s.heap [] := va_S.rf
  obtain ⟨H, hH0⟩ : ∃ H, H = s.heap := ⟨_, rfl⟩
  obtain ⟨locs, hlo⟩ : ∃ L : List Loc, L = [] := ⟨_, rfl⟩
  have hP : va_P D vwCl ([(r, oR tr ts (ad 0 0) (ad 1 0) (nI n) tick), (tr, oK KF k1 k2 k3), (k1, aI cI 12 S), (k2, aI cI 12 U), (k3, aI cI 12 V), (ts, aQ cT 6 (tq ad n))] ++ blks cI ad T (n + 2)) H := by rw [hH0]; exact hP
  have hS : va_S A s.heap H locs := by rw [hH0, hlo]; exact hS
  rw [show W p l e rmX2_count s m args below meth c s.heap [] 0 0 Q (F0 m 0 ls []) = W p l e rmX2_count s m args below meth c H locs 0 0 Q (F0 m 0 ls []) by rw [hH0, hlo]]
  clear hH0 hlo
  refine lv_iload_n hx hb dX2_count_0 rfl (lv_at hl 1 rfl) ?_
  refine lv_iconst (v := 0) hx hb dX2_count_1 (by decide) ?_
  refine lv_iconst (v := 5) hx hb dX2_count_2 (by decide) ?_
  refine sp_rS (rest := []) (As := [.int w, .int 0, .int 5]) ⟨hx, hb, hml, hown, hts⟩ (mX2_isOutside l D cI cT w 0 5) (va_cwS 3 hts gX2_count_X2_isOutside rfl rfl rfl (by decide +kernel) ⟨Nat.le_of_ble_eq_true rfl, Nat.le_of_ble_eq_true rfl⟩) hK (show va_P D vwCl [] _ from fun k q h => by simp at h) rfl hl.1 rfl (Nat.le_of_ble_eq_true rfl) dX2_count_3 ⟨Nat.le_of_ble_eq_true rfl, Nat.le_of_ble_eq_true rfl⟩ ?_
  refine sp_if_eq (tgt := 19) hx hb dX2_count_6 (by decide) (fun c6 => ?_) (fun c6 => ?_)
  · skip
    have c6 : isIn w 0 5 = true := isIn_not c6
    refine lv_aload_n hx hb dX2_count_19 rfl (lv_at hl 0 rfl) ?_
    refine lv_iload_n hx hb dX2_count_20 rfl (lv_at hl 1 rfl) ?_
    refine sp_rV (rest := []) (As := [.int w]) ⟨hx, hb, hml, hown, hts⟩ (mX2_countOf l D cI cT r tr k1 k2 k3 ts ad n hn tick KF S U V T w) (cwV 1 hts gX2_count_X2_countOf rfl rfl rfl (by decide +kernel) ⟨Nat.le_of_ble_eq_true rfl, Nat.le_of_ble_eq_true rfl⟩) hK hP (ci := 2) rfl rfl rfl rfl hl.1 rfl (Nat.le_of_ble_eq_true rfl) dX2_count_21 ⟨Nat.le_of_ble_eq_true rfl, Nat.le_of_ble_eq_true rfl⟩ ?_
    have hv9 : rCount w KF T n tick = .inl (cCount KF T n tick w) := by simp [rCount, c6]
    have hP9 : va_P D vwCl ([(r, oR tr ts (ad 0 0) (ad 1 0) (nI n) tick), (tr, oK KF k1 k2 k3), (k1, aI cI 12 S), (k2, aI cI 12 U), (k3, aI cI 12 V), (ts, aQ cT 6 (tq ad n))] ++ blks cI ad T (n + 2)) H := hP
    subst hQ
    refine vx_ret (W.widen (k := 1) (n := 6) (Nat.le_of_ble_eq_true rfl) (Nat.le_of_ble_eq_true rfl) ?_)
    exact W.iret hx hb hr (fun t ht hW => ⟨⟨_, (), rfl, hv9, by show va_P D vwCl _ t.heap; rw [ht]; exact hP9⟩, hS.F ht⟩) hS.2.2 dX2_count_24
  · skip
    have c6 : isIn w 0 5 = false := isIn_not c6
    subst hQ
    exact sp_throw (cls := xIOB) (text := "what is not 0 to 5") (w := ([(r, oR tr ts (ad 0 0) (ad 1 0) (nI n) tick), (tr, oK KF k1 k2 k3), (k1, aI cI 12 S), (k2, aI cI 12 U), (k3, aI cI 12 V), (ts, aQ cT 6 (tq ad n))] ++ blks cI ad T (n + 2))) (res := fun E => rCount w KF T n tick = .inr E) hx hb hl9 hown sp_fit3 sp_fits (by decide) (hts (.classLink RX2 122 xIOB) (by decide +kernel)) (hts (.initialized xIOB) (by decide +kernel)) hXS.2.2.2.1 (fun w hw => hts w (by first | exact List.mem_cons_of_mem _ (List.mem_append_right _ hw) | exact List.mem_cons_of_mem _ (List.mem_append_left _ (List.mem_append_right _ hw)) | exact List.mem_cons_of_mem _ (List.mem_append_left _ (List.mem_append_left _ (List.mem_append_right _ hw))))) sp_ng3 sp_gw3 hXZ hXS hS hP (hl.1.trans hml.symm) dX2_count_9 dX2_count_12 dX2_count_13 dX2_count_15 dX2_count_18 hex (Nat.le_of_ble_eq_true rfl) (Nat.le_of_ble_eq_true rfl) (Nat.le_of_ble_eq_true rfl) (Nat.le_of_ble_eq_true rfl) hlocks (Nat.le_of_ble_eq_true rfl) (Nat.le_of_ble_eq_true rfl) (show rCount w KF T n tick = .inr xIOB from by simp [rCount, c6])

abbrev rmX2_ranked : Room := { frames := 6, cells := 1, slots := 6, locals := 92 }
set_option maxHeartbeats 4000000 in
set_option maxRecDepth 100000 in
/-- ranked -/
theorem mX2_ranked (l : Launch) (D : va_G) (cI cT : ClassId) (hl9 : l.stackTraces = false) (sz : Nat) (r tr k1 k2 k3 ts : Nat) (ad : Nat → Nat → Nat) (n : Nat) (hn : n ≤ 6) (tick : Int32) (KF S U V : Nat → Int32) (T : Nat → TV) (x : Int32) : MetO l D cI cT yX2_ranked wsX2_ranked rmX2_ranked [.ref r, .int x] ([(r, oR tr ts (ad 0 0) (ad 1 0) (nI n) tick), (tr, oK KF k1 k2 k3), (k1, aI cI 12 S), (k2, aI cI 12 U), (k3, aI cI 12 V), (ts, aQ cT 6 (tq ad n))] ++ blks cI ad T (n + 2)) ([(r, oR tr ts (ad 0 0) (ad 1 0) (nI n) tick), (tr, oK KF k1 k2 k3), (k1, aI cI 12 S), (k2, aI cI 12 U), (k3, aI cI 12 V), (ts, aQ cT 6 (tq ad n))] ++ blks cI ad T (n + 2)) (rRanked x T n) 1 6 sz := by
  refine vx_ofW (cc := cX2_ranked) (maxL := 2) (ret := (some .int)) (by decide) rfl ?_
  intro p e s m args below meth c s₁ B hml hex hv
  obtain ⟨⟨hargs, hsz, hP, hR0, hK, hN⟩, hXZ, hXS⟩ := hv
  subst hsz
  have hAO := hXS.2.2.2.2.1
  have hx := B.exec
  have hb := B.bytes
  have hr := B.returns
  have hts := atoms_spec (ws := wsX2_ranked) B.pre
  have hown : s.vm.findClass RX2 = some m.cls := findClass_of_methodNamed B.named
  have hlocks := B.notSynchronized
  have hiX2 : ∀ w ∈ u_ws RX2 TX2 6, w ∈ wsX2_ranked := by decide +kernel
  have he : entryFrame m args 2 = F0 m 0 ((lg_sl [.ref r, .int x] ++ List.replicate (2 - (lg_sl [.ref r, .int x]).length) Slot.unset).toArray) [] := by rw [hargs]; exact lg_entry_eq m _ _
  rw [he]
  change W p l e rmX2_ranked s m args below meth c s.heap [] 0 0 (vx_MQ below (va_Qi (S := Unit) (fun z _ => rRanked x T n = .inl z) (fun _ t => va_P D vwCl ([(r, oR tr ts (ad 0 0) (ad 1 0) (nI n) tick), (tr, oK KF k1 k2 k3), (k1, aI cI 12 S), (k2, aI cI 12 U), (k3, aI cI 12 V), (ts, aQ cT 6 (tq ad n))] ++ blks cI ad T (n + 2)) t.heap) (frA (List.map Prod.fst ([(r, oR tr ts (ad 0 0) (ad 1 0) (nI n) tick), (tr, oK KF k1 k2 k3), (k1, aI cI 12 S), (k2, aI cI 12 U), (k3, aI cI 12 V), (ts, aQ cT 6 (tq ad n))] ++ blks cI ad T (n + 2))) s.heap.size)) (XO D ([(r, oR tr ts (ad 0 0) (ad 1 0) (nI n) tick), (tr, oK KF k1 k2 k3), (k1, aI cI 12 S), (k2, aI cI 12 U), (k3, aI cI 12 V), (ts, aQ cT 6 (tq ad n))] ++ blks cI ad T (n + 2)) (fun E => rRanked x T n = .inr E) (frA (List.map Prod.fst ([(r, oR tr ts (ad 0 0) (ad 1 0) (nI n) tick), (tr, oK KF k1 k2 k3), (k1, aI cI 12 S), (k2, aI cI 12 U), (k3, aI cI 12 V), (ts, aQ cT 6 (tq ad n))] ++ blks cI ad T (n + 2))) s.heap.size)) args s 1 6 (frA (List.map Prod.fst ([(r, oR tr ts (ad 0 0) (ad 1 0) (nI n) tick), (tr, oK KF k1 k2 k3), (k1, aI cI 12 S), (k2, aI cI 12 U), (k3, aI cI 12 V), (ts, aQ cT 6 (tq ad n))] ++ blks cI ad T (n + 2))) s.heap.size)) _
  obtain ⟨A, hAe⟩ : ∃ A, A = (frA (List.map Prod.fst ([(r, oR tr ts (ad 0 0) (ad 1 0) (nI n) tick), (tr, oK KF k1 k2 k3), (k1, aI cI 12 S), (k2, aI cI 12 U), (k3, aI cI 12 V), (ts, aQ cT 6 (tq ad n))] ++ blks cI ad T (n + 2))) s.heap.size) := ⟨_, rfl⟩
  rw [← hAe]
  have hXZ : XZ A s s.heap := by rw [hAe]; exact hXZ
  obtain ⟨Q, hQ⟩ : ∃ Q, Q = vx_MQ below (va_Qi (S := Unit) (fun z _ => rRanked x T n = .inl z) (fun _ t => va_P D vwCl ([(r, oR tr ts (ad 0 0) (ad 1 0) (nI n) tick), (tr, oK KF k1 k2 k3), (k1, aI cI 12 S), (k2, aI cI 12 U), (k3, aI cI 12 V), (ts, aQ cT 6 (tq ad n))] ++ blks cI ad T (n + 2)) t.heap) A) (XO D ([(r, oR tr ts (ad 0 0) (ad 1 0) (nI n) tick), (tr, oK KF k1 k2 k3), (k1, aI cI 12 S), (k2, aI cI 12 U), (k3, aI cI 12 V), (ts, aQ cT 6 (tq ad n))] ++ blks cI ad T (n + 2)) (fun E => rRanked x T n = .inr E) A) args s 1 6 A := ⟨_, rfl⟩
  rw [← hQ]
  have hl := lv_entry [.ref r, .int x] (n := 2) (Nat.le_of_ble_eq_true rfl)
  generalize (lg_sl [.ref r, .int x] ++ List.replicate (2 - (lg_sl [.ref r, .int x]).length) Slot.unset).toArray = ls at hl ⊢
  have hl : lv_has ls 2 [(0, .ref r), (1, .int x)] := hl
  have hA0 : ∀ q ∈ List.map Prod.fst ([(r, oR tr ts (ad 0 0) (ad 1 0) (nI n) tick), (tr, oK KF k1 k2 k3), (k1, aI cI 12 S), (k2, aI cI 12 U), (k3, aI cI 12 V), (ts, aQ cT 6 (tq ad n))] ++ blks cI ad T (n + 2)), A q := by rw [hAe]; exact fun q h => Or.inl h
  have hA : ∀ q : Nat, s.heap.size ≤ q → A q := by rw [hAe]; exact fun q h => Or.inr h
  have hD : va_D A ([(r, oR tr ts (ad 0 0) (ad 1 0) (nI n) tick), (tr, oK KF k1 k2 k3), (k1, aI cI 12 S), (k2, aI cI 12 U), (k3, aI cI 12 V), (ts, aQ cT 6 (tq ad n))] ++ blks cI ad T (n + 2)) := sp_D (List.nodup_append.mp (show ((([(r, oR tr ts (ad 0 0) (ad 1 0) (nI n) tick), (tr, oK KF k1 k2 k3), (k1, aI cI 12 S), (k2, aI cI 12 U), (k3, aI cI 12 V), (ts, aQ cT 6 (tq ad n))] ++ blks cI ad T (n + 2)) : va_W).map Prod.fst ++ ([] : va_W).map Prod.fst).Nodup by rw [← List.map_append]; exact hN)).1 hA0
  have hN : (List.map Prod.fst (([(r, oR tr ts (ad 0 0) (ad 1 0) (nI n) tick), (tr, oK KF k1 k2 k3), (k1, aI cI 12 S), (k2, aI cI 12 U), (k3, aI cI 12 V), (ts, aQ cT 6 (tq ad n))] ++ blks cI ad T (n + 2)) ++ []) : List Nat).Nodup := hN
  have hS : va_S A s.heap s.heap [] := va_S.rf
  obtain ⟨H, hH0⟩ : ∃ H, H = s.heap := ⟨_, rfl⟩
  obtain ⟨locs, hlo⟩ : ∃ L : List Loc, L = [] := ⟨_, rfl⟩
  have hP : va_P D vwCl ([(r, oR tr ts (ad 0 0) (ad 1 0) (nI n) tick), (tr, oK KF k1 k2 k3), (k1, aI cI 12 S), (k2, aI cI 12 U), (k3, aI cI 12 V), (ts, aQ cT 6 (tq ad n))] ++ blks cI ad T (n + 2)) H := by rw [hH0]; exact hP
  have hS : va_S A s.heap H locs := by rw [hH0, hlo]; exact hS
  rw [show W p l e rmX2_ranked s m args below meth c s.heap [] 0 0 Q (F0 m 0 ls []) = W p l e rmX2_ranked s m args below meth c H locs 0 0 Q (F0 m 0 ls []) by rw [hH0, hlo]]
  clear hH0 hlo
  refine lv_iload_n hx hb dX2_ranked_0 rfl (lv_at hl 1 rfl) ?_
  refine lv_if_lt (tgt := 12) hx hb dX2_ranked_1 (by decide) (fun c1 => ?_) (fun c1 => ?_)
  · skip
    subst hQ
    exact sp_throw (cls := xIOB) (text := "no such rank") (w := ([(r, oR tr ts (ad 0 0) (ad 1 0) (nI n) tick), (tr, oK KF k1 k2 k3), (k1, aI cI 12 S), (k2, aI cI 12 U), (k3, aI cI 12 V), (ts, aQ cT 6 (tq ad n))] ++ blks cI ad T (n + 2))) (res := fun E => rRanked x T n = .inr E) hx hb hl9 hown sp_fit3 sp_fits (by decide) (hts (.classLink RX2 122 xIOB) (by decide +kernel)) (hts (.initialized xIOB) (by decide +kernel)) hXS.2.2.2.1 (fun w hw => hts w (by first | exact List.mem_cons_of_mem _ (List.mem_append_right _ hw) | exact List.mem_cons_of_mem _ (List.mem_append_left _ (List.mem_append_right _ hw)) | exact List.mem_cons_of_mem _ (List.mem_append_left _ (List.mem_append_left _ (List.mem_append_right _ hw))))) sp_ng3 sp_gw3 hXZ hXS hS hP (hl.1.trans hml.symm) dX2_ranked_12 dX2_ranked_15 dX2_ranked_16 dX2_ranked_18 dX2_ranked_21 hex (Nat.le_of_ble_eq_true rfl) (Nat.le_of_ble_eq_true rfl) (Nat.le_of_ble_eq_true rfl) (Nat.le_of_ble_eq_true rfl) hlocks (Nat.le_of_ble_eq_true rfl) (Nat.le_of_ble_eq_true rfl) (show rRanked x T n = .inr xIOB from by simp [rRanked, c1])
  · skip
    refine lv_iload_n hx hb dX2_ranked_4 rfl (lv_at hl 1 rfl) ?_
    refine lv_aload_n hx hb dX2_ranked_5 rfl (lv_at hl 0 rfl) ?_
    refine va_get (D := D) (ci := 2) (v := .int (nI n)) (C := RX2) (T := TX2) (N := 6) hx hb hts hiX2 hown hK.1 hP 0 rfl rfl 4 (by decide) (hts (.fieldLink RX2 32 "SledgeRace" "teamCount" "I") (by decide +kernel)) (fun _ h9 => h9) rfl dX2_ranked_6 ?_
    refine lv_icmp_lt (tgt := 22) hx hb dX2_ranked_9 (by decide) (fun c9 => ?_) (fun c9 => ?_)
    · skip
      refine lv_aload_n hx hb dX2_ranked_22 rfl (lv_at hl 0 rfl) ?_
      refine lv_iload_n hx hb dX2_ranked_23 rfl (lv_at hl 1 rfl) ?_
      refine sp_rV (rest := []) (As := [.int x]) ⟨hx, hb, hml, hown, hts⟩ (mX2_teamAtRank l D cI cT r tr k1 k2 k3 ts ad n hn tick KF S U V T x) (cwV 1 hts gX2_ranked_X2_teamAtRank rfl rfl rfl (by decide +kernel) ⟨Nat.le_of_ble_eq_true rfl, Nat.le_of_ble_eq_true rfl⟩) hK hP (ci := 2) rfl rfl rfl rfl hl.1 rfl (Nat.le_of_ble_eq_true rfl) dX2_ranked_24 ⟨Nat.le_of_ble_eq_true rfl, Nat.le_of_ble_eq_true rfl⟩ ?_
      have hv9 : rRanked x T n = .inl (cAtRank T n x) := by simp [rRanked, c1, c9]
      have hP9 : va_P D vwCl ([(r, oR tr ts (ad 0 0) (ad 1 0) (nI n) tick), (tr, oK KF k1 k2 k3), (k1, aI cI 12 S), (k2, aI cI 12 U), (k3, aI cI 12 V), (ts, aQ cT 6 (tq ad n))] ++ blks cI ad T (n + 2)) H := hP
      subst hQ
      refine vx_ret (W.widen (k := 1) (n := 6) (Nat.le_of_ble_eq_true rfl) (Nat.le_of_ble_eq_true rfl) ?_)
      exact W.iret hx hb hr (fun t ht hW => ⟨⟨_, (), rfl, hv9, by show va_P D vwCl _ t.heap; rw [ht]; exact hP9⟩, hS.F ht⟩) hS.2.2 dX2_ranked_27
    · skip
      subst hQ
      exact sp_throw (cls := xIOB) (text := "no such rank") (w := ([(r, oR tr ts (ad 0 0) (ad 1 0) (nI n) tick), (tr, oK KF k1 k2 k3), (k1, aI cI 12 S), (k2, aI cI 12 U), (k3, aI cI 12 V), (ts, aQ cT 6 (tq ad n))] ++ blks cI ad T (n + 2))) (res := fun E => rRanked x T n = .inr E) hx hb hl9 hown sp_fit3 sp_fits (by decide) (hts (.classLink RX2 122 xIOB) (by decide +kernel)) (hts (.initialized xIOB) (by decide +kernel)) hXS.2.2.2.1 (fun w hw => hts w (by first | exact List.mem_cons_of_mem _ (List.mem_append_right _ hw) | exact List.mem_cons_of_mem _ (List.mem_append_left _ (List.mem_append_right _ hw)) | exact List.mem_cons_of_mem _ (List.mem_append_left _ (List.mem_append_left _ (List.mem_append_right _ hw))))) sp_ng3 sp_gw3 hXZ hXS hS hP (hl.1.trans hml.symm) dX2_ranked_12 dX2_ranked_15 dX2_ranked_16 dX2_ranked_18 dX2_ranked_21 hex (Nat.le_of_ble_eq_true rfl) (Nat.le_of_ble_eq_true rfl) (Nat.le_of_ble_eq_true rfl) (Nat.le_of_ble_eq_true rfl) hlocks (Nat.le_of_ble_eq_true rfl) (Nat.le_of_ble_eq_true rfl) (show rRanked x T n = .inr xIOB from by simp [rRanked, c1, c9])

abbrev rmX2_team : Room := { frames := 7, cells := 2, slots := 12, locals := 104 }
set_option maxHeartbeats 4000000 in
set_option maxRecDepth 100000 in
/-- team -/
theorem mX2_team (l : Launch) (D : va_G) (cI cT : ClassId) (hl9 : l.stackTraces = false) (sz : Nat) (r tr k1 k2 k3 ts : Nat) (ad : Nat → Nat → Nat) (n : Nat) (hn : n ≤ 6) (tick : Int32) (KF S U V : Nat → Int32) (T : Nat → TV) (hT : cTeams T n) (x w : Int32) : MetO l D cI cT yX2_team wsX2_team rmX2_team [.ref r, .int x, .int w] ([(r, oR tr ts (ad 0 0) (ad 1 0) (nI n) tick), (tr, oK KF k1 k2 k3), (k1, aI cI 12 S), (k2, aI cI 12 U), (k3, aI cI 12 V), (ts, aQ cT 6 (tq ad n))] ++ blks cI ad T (n + 2)) ([(r, oR tr ts (ad 0 0) (ad 1 0) (nI n) tick), (tr, oK KF k1 k2 k3), (k1, aI cI 12 S), (k2, aI cI 12 U), (k3, aI cI 12 V), (ts, aQ cT 6 (tq ad n))] ++ blks cI ad T (n + 2)) (rTeam x w n T) 2 12 sz := by
  refine vx_ofW (cc := cX2_team) (maxL := 4) (ret := (some .int)) (by decide) rfl ?_
  intro p e s m args below meth c s₁ B hml hex hv
  obtain ⟨⟨hargs, hsz, hP, hR0, hK, hN⟩, hXZ, hXS⟩ := hv
  subst hsz
  have hAO := hXS.2.2.2.2.1
  have hx := B.exec
  have hb := B.bytes
  have hr := B.returns
  have hts := atoms_spec (ws := wsX2_team) B.pre
  have hown : s.vm.findClass RX2 = some m.cls := findClass_of_methodNamed B.named
  have hlocks := B.notSynchronized
  have hiX2 : ∀ w ∈ u_ws RX2 TX2 6, w ∈ wsX2_team := by decide +kernel
  have he : entryFrame m args 4 = F0 m 0 ((lg_sl [.ref r, .int x, .int w] ++ List.replicate (4 - (lg_sl [.ref r, .int x, .int w]).length) Slot.unset).toArray) [] := by rw [hargs]; exact lg_entry_eq m _ _
  rw [he]
  change W p l e rmX2_team s m args below meth c s.heap [] 0 0 (vx_MQ below (va_Qi (S := Unit) (fun z _ => rTeam x w n T = .inl z) (fun _ t => va_P D vwCl ([(r, oR tr ts (ad 0 0) (ad 1 0) (nI n) tick), (tr, oK KF k1 k2 k3), (k1, aI cI 12 S), (k2, aI cI 12 U), (k3, aI cI 12 V), (ts, aQ cT 6 (tq ad n))] ++ blks cI ad T (n + 2)) t.heap) (frA (List.map Prod.fst ([(r, oR tr ts (ad 0 0) (ad 1 0) (nI n) tick), (tr, oK KF k1 k2 k3), (k1, aI cI 12 S), (k2, aI cI 12 U), (k3, aI cI 12 V), (ts, aQ cT 6 (tq ad n))] ++ blks cI ad T (n + 2))) s.heap.size)) (XO D ([(r, oR tr ts (ad 0 0) (ad 1 0) (nI n) tick), (tr, oK KF k1 k2 k3), (k1, aI cI 12 S), (k2, aI cI 12 U), (k3, aI cI 12 V), (ts, aQ cT 6 (tq ad n))] ++ blks cI ad T (n + 2)) (fun E => rTeam x w n T = .inr E) (frA (List.map Prod.fst ([(r, oR tr ts (ad 0 0) (ad 1 0) (nI n) tick), (tr, oK KF k1 k2 k3), (k1, aI cI 12 S), (k2, aI cI 12 U), (k3, aI cI 12 V), (ts, aQ cT 6 (tq ad n))] ++ blks cI ad T (n + 2))) s.heap.size)) args s 2 12 (frA (List.map Prod.fst ([(r, oR tr ts (ad 0 0) (ad 1 0) (nI n) tick), (tr, oK KF k1 k2 k3), (k1, aI cI 12 S), (k2, aI cI 12 U), (k3, aI cI 12 V), (ts, aQ cT 6 (tq ad n))] ++ blks cI ad T (n + 2))) s.heap.size)) _
  obtain ⟨A, hAe⟩ : ∃ A, A = (frA (List.map Prod.fst ([(r, oR tr ts (ad 0 0) (ad 1 0) (nI n) tick), (tr, oK KF k1 k2 k3), (k1, aI cI 12 S), (k2, aI cI 12 U), (k3, aI cI 12 V), (ts, aQ cT 6 (tq ad n))] ++ blks cI ad T (n + 2))) s.heap.size) := ⟨_, rfl⟩
  rw [← hAe]
  have hXZ : XZ A s s.heap := by rw [hAe]; exact hXZ
  obtain ⟨Q, hQ⟩ : ∃ Q, Q = vx_MQ below (va_Qi (S := Unit) (fun z _ => rTeam x w n T = .inl z) (fun _ t => va_P D vwCl ([(r, oR tr ts (ad 0 0) (ad 1 0) (nI n) tick), (tr, oK KF k1 k2 k3), (k1, aI cI 12 S), (k2, aI cI 12 U), (k3, aI cI 12 V), (ts, aQ cT 6 (tq ad n))] ++ blks cI ad T (n + 2)) t.heap) A) (XO D ([(r, oR tr ts (ad 0 0) (ad 1 0) (nI n) tick), (tr, oK KF k1 k2 k3), (k1, aI cI 12 S), (k2, aI cI 12 U), (k3, aI cI 12 V), (ts, aQ cT 6 (tq ad n))] ++ blks cI ad T (n + 2)) (fun E => rTeam x w n T = .inr E) A) args s 2 12 A := ⟨_, rfl⟩
  rw [← hQ]
  have hl := lv_entry [.ref r, .int x, .int w] (n := 4) (Nat.le_of_ble_eq_true rfl)
  generalize (lg_sl [.ref r, .int x, .int w] ++ List.replicate (4 - (lg_sl [.ref r, .int x, .int w]).length) Slot.unset).toArray = ls at hl ⊢
  have hl : lv_has ls 4 [(0, .ref r), (1, .int x), (2, .int w)] := hl
  have hA0 : ∀ q ∈ List.map Prod.fst ([(r, oR tr ts (ad 0 0) (ad 1 0) (nI n) tick), (tr, oK KF k1 k2 k3), (k1, aI cI 12 S), (k2, aI cI 12 U), (k3, aI cI 12 V), (ts, aQ cT 6 (tq ad n))] ++ blks cI ad T (n + 2)), A q := by rw [hAe]; exact fun q h => Or.inl h
  have hA : ∀ q : Nat, s.heap.size ≤ q → A q := by rw [hAe]; exact fun q h => Or.inr h
  have hD : va_D A ([(r, oR tr ts (ad 0 0) (ad 1 0) (nI n) tick), (tr, oK KF k1 k2 k3), (k1, aI cI 12 S), (k2, aI cI 12 U), (k3, aI cI 12 V), (ts, aQ cT 6 (tq ad n))] ++ blks cI ad T (n + 2)) := sp_D (List.nodup_append.mp (show ((([(r, oR tr ts (ad 0 0) (ad 1 0) (nI n) tick), (tr, oK KF k1 k2 k3), (k1, aI cI 12 S), (k2, aI cI 12 U), (k3, aI cI 12 V), (ts, aQ cT 6 (tq ad n))] ++ blks cI ad T (n + 2)) : va_W).map Prod.fst ++ ([] : va_W).map Prod.fst).Nodup by rw [← List.map_append]; exact hN)).1 hA0
  have hN : (List.map Prod.fst (([(r, oR tr ts (ad 0 0) (ad 1 0) (nI n) tick), (tr, oK KF k1 k2 k3), (k1, aI cI 12 S), (k2, aI cI 12 U), (k3, aI cI 12 V), (ts, aQ cT 6 (tq ad n))] ++ blks cI ad T (n + 2)) ++ []) : List Nat).Nodup := hN
  have hS : va_S A s.heap s.heap [] := va_S.rf
  obtain ⟨H, hH0⟩ : ∃ H, H = s.heap := ⟨_, rfl⟩
  obtain ⟨locs, hlo⟩ : ∃ L : List Loc, L = [] := ⟨_, rfl⟩
  have hP : va_P D vwCl ([(r, oR tr ts (ad 0 0) (ad 1 0) (nI n) tick), (tr, oK KF k1 k2 k3), (k1, aI cI 12 S), (k2, aI cI 12 U), (k3, aI cI 12 V), (ts, aQ cT 6 (tq ad n))] ++ blks cI ad T (n + 2)) H := by rw [hH0]; exact hP
  have hS : va_S A s.heap H locs := by rw [hH0, hlo]; exact hS
  rw [show W p l e rmX2_team s m args below meth c s.heap [] 0 0 Q (F0 m 0 ls []) = W p l e rmX2_team s m args below meth c H locs 0 0 Q (F0 m 0 ls []) by rw [hH0, hlo]]
  clear hH0 hlo
  refine lv_aload_n hx hb dX2_team_0 rfl (lv_at hl 0 rfl) ?_
  refine lv_iload_n hx hb dX2_team_1 rfl (lv_at hl 1 rfl) ?_
  refine sp_oR (rest := []) (As := [.int x]) (W1 := ([(r, oR tr ts (ad 0 0) (ad 1 0) (nI n) tick), (tr, oK KF k1 k2 k3), (k1, aI cI 12 S), (k2, aI cI 12 U), (k3, aI cI 12 V), (ts, aQ cT 6 (tq ad n))] ++ blks cI ad T (n + 2))) (ci := 2) (w := ([(r, oR tr ts (ad 0 0) (ad 1 0) (nI n) tick), (tr, oK KF k1 k2 k3), (k1, aI cI 12 S), (k2, aI cI 12 U), (k3, aI cI 12 V), (ts, aQ cT 6 (tq ad n))] ++ blks cI ad T (n + 2))) (rs := fun E => rTeam x w n T = .inr E) ⟨hx, hb, hml, hown, hts⟩ (mX2_teamNumbered l D cI cT hl9 H.size r tr k1 k2 k3 ts ad n hn tick KF S U V T x) (cwV 1 hts gX2_team_X2_teamNumbered rfl rfl rfl (by decide +kernel) ⟨Nat.le_of_ble_eq_true rfl, Nat.le_of_ble_eq_true rfl⟩) hK hXZ hXS hP hD hS hA (xb_fst rfl cI ad _ _ (n + 2)) rfl rfl rfl rfl hl.1 rfl (Nat.le_of_ble_eq_true rfl) dX2_team_2 ⟨Nat.le_of_ble_eq_true rfl, Nat.le_of_ble_eq_true rfl⟩ hex hlocks rfl (fun E hE => by obtain ⟨hin, rfl⟩ := teamR_inr hE; simp [rTeam, hin]) (Nat.le_of_ble_eq_true rfl) (Nat.le_of_ble_eq_true rfl) hQ (fun ra H locs hres hP hD hS => ?_)
  obtain ⟨i, cin, rfl, rfl⟩ := teamR_inl hn hres
  have hin : isIn (nI i) 0 (nI n - 1) = true := isIn_lt (by omega) cin
  have hcl : (nI i).toNatClampNeg = i := nI_clamp (by omega)
  refine lv_astore_n (lv' := [(3, .ref (ad (i + 2) 0)), (0, .ref r), (1, .int (nI i)), (2, .int w)]) hx hb dX2_team_5 rfl hl (by decide) rfl (fun ls hl => ?_)
  refine lv_iload_n hx hb dX2_team_6 rfl (lv_at hl 3 rfl) ?_
  refine lv_iconst (v := 0) hx hb dX2_team_7 (by decide) ?_
  refine lv_bipush (v := 11) hx hb dX2_team_8 (by decide) ?_
  refine sp_rS (rest := []) (As := [.int w, .int 0, .int 11]) ⟨hx, hb, hml, hown, hts⟩ (mX2_isOutside l D cI cT w 0 11) (va_cwS 3 hts gX2_team_X2_isOutside rfl rfl rfl (by decide +kernel) ⟨Nat.le_of_ble_eq_true rfl, Nat.le_of_ble_eq_true rfl⟩) hK (show va_P D vwCl [] _ from fun k q h => by simp at h) rfl hl.1 rfl (Nat.le_of_ble_eq_true rfl) dX2_team_10 ⟨Nat.le_of_ble_eq_true rfl, Nat.le_of_ble_eq_true rfl⟩ ?_
  refine sp_if_eq (tgt := 26) hx hb dX2_team_13 (by decide) (fun c13 => ?_) (fun c13 => ?_)
  · skip
    have c13 : isIn w 0 11 = true := isIn_not c13
    refine lv_aload_n hx hb dX2_team_26 rfl (lv_at hl 0 rfl) ?_
    refine lv_iload_n hx hb dX2_team_27 rfl (lv_at hl 3 rfl) ?_
    refine sp_rV (rest := []) (As := [.int w]) ⟨hx, hb, hml, hown, hts⟩ (mX0_fact l D cI cT (ad (i + 2) 0) (ad (i + 2) 1) (ad (i + 2) 2) (ad (i + 2) 3) (T (i + 2)).1 (T (i + 2)).2.1 w (cN (T (i + 2))) (hT i cin).1.2 (hT i cin).1.1) (cwV 1 hts gX2_team_X0_fact rfl rfl rfl (by decide +kernel) ⟨Nat.le_of_ble_eq_true rfl, Nat.le_of_ble_eq_true rfl⟩) hK ((blk_P hP (show i + 2 < n + 2 by omega)).sub (ws' := [(ad (i + 2) 0, oT ((T (i + 2)).1) (ad (i + 2) 1) (ad (i + 2) 2) (ad (i + 2) 3)), (ad (i + 2) 1, aI cI 8 ((T (i + 2)).2.1))]) [0, 1] rfl) (ci := 0) rfl rfl rfl rfl hl.1 rfl (Nat.le_of_ble_eq_true rfl) dX2_team_28 ⟨Nat.le_of_ble_eq_true rfl, Nat.le_of_ble_eq_true rfl⟩ ?_
    have hv9 : rTeam (nI i) w n T = .inl (cFact (T (i + 2)).1 (T (i + 2)).2.1 (cN (T (i + 2))) w) := by simp [rTeam, c13, hin, hcl]
    have hP9 : va_P D vwCl ([(r, oR tr ts (ad 0 0) (ad 1 0) (nI n) tick), (tr, oK KF k1 k2 k3), (k1, aI cI 12 S), (k2, aI cI 12 U), (k3, aI cI 12 V), (ts, aQ cT 6 (tq ad n))] ++ blks cI ad T (n + 2)) H := hP
    subst hQ
    refine vx_ret (W.widen (k := 2) (n := 12) (Nat.le_of_ble_eq_true rfl) (Nat.le_of_ble_eq_true rfl) ?_)
    exact W.iret hx hb hr (fun t ht hW => ⟨⟨_, (), rfl, hv9, by show va_P D vwCl _ t.heap; rw [ht]; exact hP9⟩, hS.F ht⟩) hS.2.2 dX2_team_31
  · skip
    have c13 : isIn w 0 11 = false := isIn_not c13
    subst hQ
    exact sp_throw (cls := xIOB) (text := "what is not 0 to 11") (w := ([(r, oR tr ts (ad 0 0) (ad 1 0) (nI n) tick), (tr, oK KF k1 k2 k3), (k1, aI cI 12 S), (k2, aI cI 12 U), (k3, aI cI 12 V), (ts, aQ cT 6 (tq ad n))] ++ blks cI ad T (n + 2))) (res := fun E => rTeam (nI i) w n T = .inr E) hx hb hl9 hown sp_fit3 sp_fits (by decide) (hts (.classLink RX2 122 xIOB) (by decide +kernel)) (hts (.initialized xIOB) (by decide +kernel)) hXS.2.2.2.1 (fun w hw => hts w (by first | exact List.mem_cons_of_mem _ (List.mem_append_right _ hw) | exact List.mem_cons_of_mem _ (List.mem_append_left _ (List.mem_append_right _ hw)) | exact List.mem_cons_of_mem _ (List.mem_append_left _ (List.mem_append_left _ (List.mem_append_right _ hw))))) sp_ng3 sp_gw3 hXZ hXS hS hP (hl.1.trans hml.symm) dX2_team_16 dX2_team_19 dX2_team_20 dX2_team_22 dX2_team_25 hex (Nat.le_of_ble_eq_true rfl) (Nat.le_of_ble_eq_true rfl) (Nat.le_of_ble_eq_true rfl) (Nat.le_of_ble_eq_true rfl) hlocks (Nat.le_of_ble_eq_true rfl) (Nat.le_of_ble_eq_true rfl) (show rTeam (nI i) w n T = .inr xIOB from by simp [rTeam, c13, hin, hcl])

abbrev rmX2_roller : Room := { frames := 7, cells := 2, slots := 12, locals := 104 }
set_option maxHeartbeats 4000000 in
set_option maxRecDepth 100000 in
/-- roller -/
theorem mX2_roller (l : Launch) (D : va_G) (cI cT : ClassId) (hl9 : l.stackTraces = false) (sz : Nat) (r tr k1 k2 k3 ts : Nat) (ad : Nat → Nat → Nat) (n : Nat) (hn : n ≤ 6) (tick : Int32) (KF S U V : Nat → Int32) (T : Nat → TV) (x k9 : Int32) : MetO l D cI cT yX2_roller wsX2_roller rmX2_roller [.ref r, .int x, .int k9] ([(r, oR tr ts (ad 0 0) (ad 1 0) (nI n) tick), (tr, oK KF k1 k2 k3), (k1, aI cI 12 S), (k2, aI cI 12 U), (k3, aI cI 12 V), (ts, aQ cT 6 (tq ad n))] ++ blks cI ad T (n + 2)) ([(r, oR tr ts (ad 0 0) (ad 1 0) (nI n) tick), (tr, oK KF k1 k2 k3), (k1, aI cI 12 S), (k2, aI cI 12 U), (k3, aI cI 12 V), (ts, aQ cT 6 (tq ad n))] ++ blks cI ad T (n + 2)) (rRoller x k9 n T) 2 12 sz := by
  refine vx_ofW (cc := cX2_roller) (maxL := 5) (ret := (some .int)) (by decide) rfl ?_
  intro p e s m args below meth c s₁ B hml hex hv
  obtain ⟨⟨hargs, hsz, hP, hR0, hK, hN⟩, hXZ, hXS⟩ := hv
  subst hsz
  have hAO := hXS.2.2.2.2.1
  have hx := B.exec
  have hb := B.bytes
  have hr := B.returns
  have hts := atoms_spec (ws := wsX2_roller) B.pre
  have hown : s.vm.findClass RX2 = some m.cls := findClass_of_methodNamed B.named
  have hlocks := B.notSynchronized
  have hiX0 : ∀ w ∈ u_ws RX0 TX0 20, w ∈ wsX2_roller := by decide +kernel
  have hiX2 : ∀ w ∈ u_ws RX2 TX2 6, w ∈ wsX2_roller := by decide +kernel
  have he : entryFrame m args 5 = F0 m 0 ((lg_sl [.ref r, .int x, .int k9] ++ List.replicate (5 - (lg_sl [.ref r, .int x, .int k9]).length) Slot.unset).toArray) [] := by rw [hargs]; exact lg_entry_eq m _ _
  rw [he]
  change W p l e rmX2_roller s m args below meth c s.heap [] 0 0 (vx_MQ below (va_Qi (S := Unit) (fun z _ => rRoller x k9 n T = .inl z) (fun _ t => va_P D vwCl ([(r, oR tr ts (ad 0 0) (ad 1 0) (nI n) tick), (tr, oK KF k1 k2 k3), (k1, aI cI 12 S), (k2, aI cI 12 U), (k3, aI cI 12 V), (ts, aQ cT 6 (tq ad n))] ++ blks cI ad T (n + 2)) t.heap) (frA (List.map Prod.fst ([(r, oR tr ts (ad 0 0) (ad 1 0) (nI n) tick), (tr, oK KF k1 k2 k3), (k1, aI cI 12 S), (k2, aI cI 12 U), (k3, aI cI 12 V), (ts, aQ cT 6 (tq ad n))] ++ blks cI ad T (n + 2))) s.heap.size)) (XO D ([(r, oR tr ts (ad 0 0) (ad 1 0) (nI n) tick), (tr, oK KF k1 k2 k3), (k1, aI cI 12 S), (k2, aI cI 12 U), (k3, aI cI 12 V), (ts, aQ cT 6 (tq ad n))] ++ blks cI ad T (n + 2)) (fun E => rRoller x k9 n T = .inr E) (frA (List.map Prod.fst ([(r, oR tr ts (ad 0 0) (ad 1 0) (nI n) tick), (tr, oK KF k1 k2 k3), (k1, aI cI 12 S), (k2, aI cI 12 U), (k3, aI cI 12 V), (ts, aQ cT 6 (tq ad n))] ++ blks cI ad T (n + 2))) s.heap.size)) args s 2 12 (frA (List.map Prod.fst ([(r, oR tr ts (ad 0 0) (ad 1 0) (nI n) tick), (tr, oK KF k1 k2 k3), (k1, aI cI 12 S), (k2, aI cI 12 U), (k3, aI cI 12 V), (ts, aQ cT 6 (tq ad n))] ++ blks cI ad T (n + 2))) s.heap.size)) _
  obtain ⟨A, hAe⟩ : ∃ A, A = (frA (List.map Prod.fst ([(r, oR tr ts (ad 0 0) (ad 1 0) (nI n) tick), (tr, oK KF k1 k2 k3), (k1, aI cI 12 S), (k2, aI cI 12 U), (k3, aI cI 12 V), (ts, aQ cT 6 (tq ad n))] ++ blks cI ad T (n + 2))) s.heap.size) := ⟨_, rfl⟩
  rw [← hAe]
  have hXZ : XZ A s s.heap := by rw [hAe]; exact hXZ
  obtain ⟨Q, hQ⟩ : ∃ Q, Q = vx_MQ below (va_Qi (S := Unit) (fun z _ => rRoller x k9 n T = .inl z) (fun _ t => va_P D vwCl ([(r, oR tr ts (ad 0 0) (ad 1 0) (nI n) tick), (tr, oK KF k1 k2 k3), (k1, aI cI 12 S), (k2, aI cI 12 U), (k3, aI cI 12 V), (ts, aQ cT 6 (tq ad n))] ++ blks cI ad T (n + 2)) t.heap) A) (XO D ([(r, oR tr ts (ad 0 0) (ad 1 0) (nI n) tick), (tr, oK KF k1 k2 k3), (k1, aI cI 12 S), (k2, aI cI 12 U), (k3, aI cI 12 V), (ts, aQ cT 6 (tq ad n))] ++ blks cI ad T (n + 2)) (fun E => rRoller x k9 n T = .inr E) A) args s 2 12 A := ⟨_, rfl⟩
  rw [← hQ]
  have hl := lv_entry [.ref r, .int x, .int k9] (n := 5) (Nat.le_of_ble_eq_true rfl)
  generalize (lg_sl [.ref r, .int x, .int k9] ++ List.replicate (5 - (lg_sl [.ref r, .int x, .int k9]).length) Slot.unset).toArray = ls at hl ⊢
  have hl : lv_has ls 5 [(0, .ref r), (1, .int x), (2, .int k9)] := hl
  have hA0 : ∀ q ∈ List.map Prod.fst ([(r, oR tr ts (ad 0 0) (ad 1 0) (nI n) tick), (tr, oK KF k1 k2 k3), (k1, aI cI 12 S), (k2, aI cI 12 U), (k3, aI cI 12 V), (ts, aQ cT 6 (tq ad n))] ++ blks cI ad T (n + 2)), A q := by rw [hAe]; exact fun q h => Or.inl h
  have hA : ∀ q : Nat, s.heap.size ≤ q → A q := by rw [hAe]; exact fun q h => Or.inr h
  have hD : va_D A ([(r, oR tr ts (ad 0 0) (ad 1 0) (nI n) tick), (tr, oK KF k1 k2 k3), (k1, aI cI 12 S), (k2, aI cI 12 U), (k3, aI cI 12 V), (ts, aQ cT 6 (tq ad n))] ++ blks cI ad T (n + 2)) := sp_D (List.nodup_append.mp (show ((([(r, oR tr ts (ad 0 0) (ad 1 0) (nI n) tick), (tr, oK KF k1 k2 k3), (k1, aI cI 12 S), (k2, aI cI 12 U), (k3, aI cI 12 V), (ts, aQ cT 6 (tq ad n))] ++ blks cI ad T (n + 2)) : va_W).map Prod.fst ++ ([] : va_W).map Prod.fst).Nodup by rw [← List.map_append]; exact hN)).1 hA0
  have hN : (List.map Prod.fst (([(r, oR tr ts (ad 0 0) (ad 1 0) (nI n) tick), (tr, oK KF k1 k2 k3), (k1, aI cI 12 S), (k2, aI cI 12 U), (k3, aI cI 12 V), (ts, aQ cT 6 (tq ad n))] ++ blks cI ad T (n + 2)) ++ []) : List Nat).Nodup := hN
  have hS : va_S A s.heap s.heap [] := va_S.rf
  obtain ⟨H, hH0⟩ : ∃ H, H = s.heap := ⟨_, rfl⟩
  obtain ⟨locs, hlo⟩ : ∃ L : List Loc, L = [] := ⟨_, rfl⟩
  have hP : va_P D vwCl ([(r, oR tr ts (ad 0 0) (ad 1 0) (nI n) tick), (tr, oK KF k1 k2 k3), (k1, aI cI 12 S), (k2, aI cI 12 U), (k3, aI cI 12 V), (ts, aQ cT 6 (tq ad n))] ++ blks cI ad T (n + 2)) H := by rw [hH0]; exact hP
  have hS : va_S A s.heap H locs := by rw [hH0, hlo]; exact hS
  rw [show W p l e rmX2_roller s m args below meth c s.heap [] 0 0 Q (F0 m 0 ls []) = W p l e rmX2_roller s m args below meth c H locs 0 0 Q (F0 m 0 ls []) by rw [hH0, hlo]]
  clear hH0 hlo
  refine lv_aload_n hx hb dX2_roller_0 rfl (lv_at hl 0 rfl) ?_
  refine lv_iload_n hx hb dX2_roller_1 rfl (lv_at hl 1 rfl) ?_
  refine sp_oR (rest := []) (As := [.int x]) (W1 := ([(r, oR tr ts (ad 0 0) (ad 1 0) (nI n) tick), (tr, oK KF k1 k2 k3), (k1, aI cI 12 S), (k2, aI cI 12 U), (k3, aI cI 12 V), (ts, aQ cT 6 (tq ad n))] ++ blks cI ad T (n + 2))) (ci := 2) (w := ([(r, oR tr ts (ad 0 0) (ad 1 0) (nI n) tick), (tr, oK KF k1 k2 k3), (k1, aI cI 12 S), (k2, aI cI 12 U), (k3, aI cI 12 V), (ts, aQ cT 6 (tq ad n))] ++ blks cI ad T (n + 2))) (rs := fun E => rRoller x k9 n T = .inr E) ⟨hx, hb, hml, hown, hts⟩ (mX2_teamNumbered l D cI cT hl9 H.size r tr k1 k2 k3 ts ad n hn tick KF S U V T x) (cwV 1 hts gX2_roller_X2_teamNumbered rfl rfl rfl (by decide +kernel) ⟨Nat.le_of_ble_eq_true rfl, Nat.le_of_ble_eq_true rfl⟩) hK hXZ hXS hP hD hS hA (xb_fst rfl cI ad _ _ (n + 2)) rfl rfl rfl rfl hl.1 rfl (Nat.le_of_ble_eq_true rfl) dX2_roller_2 ⟨Nat.le_of_ble_eq_true rfl, Nat.le_of_ble_eq_true rfl⟩ hex hlocks rfl (fun E hE => by obtain ⟨hin, rfl⟩ := teamR_inr hE; simp [rRoller, hin]) (Nat.le_of_ble_eq_true rfl) (Nat.le_of_ble_eq_true rfl) hQ (fun ra H locs hres hP hD hS => ?_)
  obtain ⟨i, cin, rfl, rfl⟩ := teamR_inl hn hres
  have hin : isIn (nI i) 0 (nI n - 1) = true := isIn_lt (by omega) cin
  have hcl : (nI i).toNatClampNeg = i := nI_clamp (by omega)
  refine lv_astore_n (lv' := [(3, .ref (ad (i + 2) 0)), (0, .ref r), (1, .int (nI i)), (2, .int k9)]) hx hb dX2_roller_5 rfl hl (by decide) rfl (fun ls hl => ?_)
  refine lv_iload_n hx hb dX2_roller_6 rfl (lv_at hl 3 rfl) ?_
  refine lv_if_lt (tgt := 27) hx hb dX2_roller_7 (by decide) (fun c7 => ?_) (fun c7 => ?_)
  · skip
    subst hQ
    exact sp_throw (cls := xIOB) (text := "no such roller") (w := ([(r, oR tr ts (ad 0 0) (ad 1 0) (nI n) tick), (tr, oK KF k1 k2 k3), (k1, aI cI 12 S), (k2, aI cI 12 U), (k3, aI cI 12 V), (ts, aQ cT 6 (tq ad n))] ++ blks cI ad T (n + 2))) (res := fun E => rRoller (nI i) k9 n T = .inr E) hx hb hl9 hown sp_fit3 sp_fits (by decide) (hts (.classLink RX2 122 xIOB) (by decide +kernel)) (hts (.initialized xIOB) (by decide +kernel)) hXS.2.2.2.1 (fun w hw => hts w (by first | exact List.mem_cons_of_mem _ (List.mem_append_right _ hw) | exact List.mem_cons_of_mem _ (List.mem_append_left _ (List.mem_append_right _ hw)) | exact List.mem_cons_of_mem _ (List.mem_append_left _ (List.mem_append_left _ (List.mem_append_right _ hw))))) sp_ng3 sp_gw3 hXZ hXS hS hP (hl.1.trans hml.symm) dX2_roller_27 dX2_roller_30 dX2_roller_31 dX2_roller_33 dX2_roller_36 hex (Nat.le_of_ble_eq_true rfl) (Nat.le_of_ble_eq_true rfl) (Nat.le_of_ble_eq_true rfl) (Nat.le_of_ble_eq_true rfl) hlocks (Nat.le_of_ble_eq_true rfl) (Nat.le_of_ble_eq_true rfl) (show rRoller (nI i) k9 n T = .inr xIOB from by simp [rRoller, c7, hin, hcl])
  · skip
    refine lv_iload_n hx hb dX2_roller_10 rfl (lv_at hl 3 rfl) ?_
    refine lv_aload_n hx hb dX2_roller_11 rfl (lv_at hl 0 rfl) ?_
    refine va_getN (D := D) (ci := 0) (v := .int (((T (i + 2)).1) 3)) (C := RX0) (T := TX0) (N := 20) hx hb hts hiX0 hown hK.1 (blk_P hP (show i + 2 < n + 2 by omega)) 0 rfl rfl 3 (by decide) (hK.n (w := .fieldLinkNest RX2 136 "SledgeRace$Team" "rollers" "I" "SledgeRace") (by decide +kernel)) (fun _ h9 => h9) rfl dX2_roller_12 ?_
    refine lx_icmp_ge (tgt := 27) hx hb dX2_roller_15 (by decide) (fun c15 => ?_) (fun c15 => ?_)
    · skip
      subst hQ
      exact sp_throw (cls := xIOB) (text := "no such roller") (w := ([(r, oR tr ts (ad 0 0) (ad 1 0) (nI n) tick), (tr, oK KF k1 k2 k3), (k1, aI cI 12 S), (k2, aI cI 12 U), (k3, aI cI 12 V), (ts, aQ cT 6 (tq ad n))] ++ blks cI ad T (n + 2))) (res := fun E => rRoller (nI i) k9 n T = .inr E) hx hb hl9 hown sp_fit3 sp_fits (by decide) (hts (.classLink RX2 122 xIOB) (by decide +kernel)) (hts (.initialized xIOB) (by decide +kernel)) hXS.2.2.2.1 (fun w hw => hts w (by first | exact List.mem_cons_of_mem _ (List.mem_append_right _ hw) | exact List.mem_cons_of_mem _ (List.mem_append_left _ (List.mem_append_right _ hw)) | exact List.mem_cons_of_mem _ (List.mem_append_left _ (List.mem_append_left _ (List.mem_append_right _ hw))))) sp_ng3 sp_gw3 hXZ hXS hS hP (hl.1.trans hml.symm) dX2_roller_27 dX2_roller_30 dX2_roller_31 dX2_roller_33 dX2_roller_36 hex (Nat.le_of_ble_eq_true rfl) (Nat.le_of_ble_eq_true rfl) (Nat.le_of_ble_eq_true rfl) (Nat.le_of_ble_eq_true rfl) hlocks (Nat.le_of_ble_eq_true rfl) (Nat.le_of_ble_eq_true rfl) (show rRoller (nI i) k9 n T = .inr xIOB from by simp [rRoller, c7, c15, hin, hcl])
    · skip
      refine lv_iload_n hx hb dX2_roller_18 rfl (lv_at hl 3 rfl) ?_
      refine lv_aload_n hx hb dX2_roller_19 rfl (lv_at hl 0 rfl) ?_
      refine va_getN (D := D) (ci := 0) (v := .ref (ad (i + 2) 1)) (C := RX0) (T := TX0) (N := 20) hx hb hts hiX0 hown hK.1 (blk_P hP (show i + 2 < n + 2 by omega)) 0 rfl rfl 17 (by decide) (hK.n (w := .fieldLinkNest RX2 139 "SledgeRace$Team" "places" "[I" "SledgeRace") (by decide +kernel)) (fun _ h9 => h9) rfl dX2_roller_20 ?_
      refine va_alen hx hb hK.1 (blk_P hP (show i + 2 < n + 2 by omega)) 1 0 rfl rfl (v := nI 8) rfl dX2_roller_23 ?_
      refine lv_icmp_lt (tgt := 37) hx hb dX2_roller_24 (by decide) (fun c24 => ?_) (fun c24 => ?_)
      · skip
        obtain ⟨j9, hj9, rfl⟩ := nat_of (b := 8) (by decide) c7 c24
        have hcj : (nI j9).toNatClampNeg = j9 := nI_clamp (by omega)
        refine lv_aload_n hx hb dX2_roller_37 rfl (lv_at hl 0 rfl) ?_
        refine va_getN (D := D) (ci := 0) (v := .ref (ad (i + 2) 1)) (C := RX0) (T := TX0) (N := 20) hx hb hts hiX0 hown hK.1 (blk_P hP (show i + 2 < n + 2 by omega)) 0 rfl rfl 17 (by decide) (hK.n (w := .fieldLinkNest RX2 139 "SledgeRace$Team" "places" "[I" "SledgeRace") (by decide +kernel)) (fun _ h9 => h9) rfl dX2_roller_38 ?_
        refine lv_iload_n hx hb dX2_roller_41 rfl (lv_at hl 3 rfl) ?_
        refine sp_iald hx hb hK.1 (blk_P hP (show i + 2 < n + 2 by omega)) 1 0 rfl rfl (by omega) (by omega) dX2_roller_42 ?_
        refine lv_istore (lv' := [(4, .int (((T (i + 2)).2.1) j9)), (3, .ref (ad (i + 2) 0)), (0, .ref r), (1, .int (nI i)), (2, .int (nI j9))]) hx hb dX2_roller_43 hl (by decide) rfl (fun ls hl => ?_)
        refine lv_iload hx hb dX2_roller_45 (lv_at hl 0 rfl) ?_
        refine lv_sipush (v := (-9999)) hx hb dX2_roller_47 (by decide) ?_
        refine lv_icmp_ne (tgt := 63) hx hb dX2_roller_50 (by decide) (fun c50 => ?_) (fun c50 => ?_)
        · skip
          refine lv_iload hx hb dX2_roller_63 (lv_at hl 0 rfl) ?_
          have hv9 : rRoller (nI i) (nI j9) n T = .inl (((T (i + 2)).2.1) j9) := by simp [rRoller, c7, c15, c24, c50, hin, hcl, hcj]
          have hP9 : va_P D vwCl ([(r, oR tr ts (ad 0 0) (ad 1 0) (nI n) tick), (tr, oK KF k1 k2 k3), (k1, aI cI 12 S), (k2, aI cI 12 U), (k3, aI cI 12 V), (ts, aQ cT 6 (tq ad n))] ++ blks cI ad T (n + 2)) H := hP
          subst hQ
          refine vx_ret (W.widen (k := 2) (n := 12) (Nat.le_of_ble_eq_true rfl) (Nat.le_of_ble_eq_true rfl) ?_)
          exact W.iret hx hb hr (fun t ht hW => ⟨⟨_, (), rfl, hv9, by show va_P D vwCl _ t.heap; rw [ht]; exact hP9⟩, hS.F ht⟩) hS.2.2 dX2_roller_65
        · skip
          subst hQ
          exact sp_throw (cls := xISE) (text := "the roller is carried") (w := ([(r, oR tr ts (ad 0 0) (ad 1 0) (nI n) tick), (tr, oK KF k1 k2 k3), (k1, aI cI 12 S), (k2, aI cI 12 U), (k3, aI cI 12 V), (ts, aQ cT 6 (tq ad n))] ++ blks cI ad T (n + 2))) (res := fun E => rRoller (nI i) (nI j9) n T = .inr E) hx hb hl9 hown sp_fit2 sp_fits (by decide) (hts (.classLink RX2 61 xISE) (by decide +kernel)) (hts (.initialized xISE) (by decide +kernel)) hXS.2.2.1 (fun w hw => hts w (by first | exact List.mem_cons_of_mem _ (List.mem_append_right _ hw) | exact List.mem_cons_of_mem _ (List.mem_append_left _ (List.mem_append_right _ hw)) | exact List.mem_cons_of_mem _ (List.mem_append_left _ (List.mem_append_left _ (List.mem_append_right _ hw))))) sp_ng2 sp_gw2 hXZ hXS hS hP (hl.1.trans hml.symm) dX2_roller_53 dX2_roller_56 dX2_roller_57 dX2_roller_59 dX2_roller_62 hex (Nat.le_of_ble_eq_true rfl) (Nat.le_of_ble_eq_true rfl) (Nat.le_of_ble_eq_true rfl) (Nat.le_of_ble_eq_true rfl) hlocks (Nat.le_of_ble_eq_true rfl) (Nat.le_of_ble_eq_true rfl) (show rRoller (nI i) (nI j9) n T = .inr xISE from by simp [rRoller, c7, c15, c24, c50, hin, hcl, hcj])
      · skip
        subst hQ
        exact sp_throw (cls := xIOB) (text := "no such roller") (w := ([(r, oR tr ts (ad 0 0) (ad 1 0) (nI n) tick), (tr, oK KF k1 k2 k3), (k1, aI cI 12 S), (k2, aI cI 12 U), (k3, aI cI 12 V), (ts, aQ cT 6 (tq ad n))] ++ blks cI ad T (n + 2))) (res := fun E => rRoller (nI i) k9 n T = .inr E) hx hb hl9 hown sp_fit3 sp_fits (by decide) (hts (.classLink RX2 122 xIOB) (by decide +kernel)) (hts (.initialized xIOB) (by decide +kernel)) hXS.2.2.2.1 (fun w hw => hts w (by first | exact List.mem_cons_of_mem _ (List.mem_append_right _ hw) | exact List.mem_cons_of_mem _ (List.mem_append_left _ (List.mem_append_right _ hw)) | exact List.mem_cons_of_mem _ (List.mem_append_left _ (List.mem_append_left _ (List.mem_append_right _ hw))))) sp_ng3 sp_gw3 hXZ hXS hS hP (hl.1.trans hml.symm) dX2_roller_27 dX2_roller_30 dX2_roller_31 dX2_roller_33 dX2_roller_36 hex (Nat.le_of_ble_eq_true rfl) (Nat.le_of_ble_eq_true rfl) (Nat.le_of_ble_eq_true rfl) (Nat.le_of_ble_eq_true rfl) hlocks (Nat.le_of_ble_eq_true rfl) (Nat.le_of_ble_eq_true rfl) (show rRoller (nI i) k9 n T = .inr xIOB from by simp [rRoller, c7, c15, c24, hin, hcl])

abbrev rmX2_next : Room := { frames := 7, cells := 2, slots := 12, locals := 104 }
set_option maxHeartbeats 4000000 in
set_option maxRecDepth 100000 in
/-- next -/
theorem mX2_next (l : Launch) (D : va_G) (cI cT : ClassId) (hl9 : l.stackTraces = false) (sz : Nat) (r tr k1 k2 k3 ts : Nat) (ad : Nat → Nat → Nat) (n : Nat) (hn : n ≤ 6) (tick : Int32) (KF S U V : Nat → Int32) (T : Nat → TV) (hT : cTeams T n) (ns : Nat) (hns : ns ≤ 12) (hk : KF 3 = nI ns) (x w : Int32) : MetO l D cI cT yX2_next wsX2_next rmX2_next [.ref r, .int x, .int w] ([(r, oR tr ts (ad 0 0) (ad 1 0) (nI n) tick), (tr, oK KF k1 k2 k3), (k1, aI cI 12 S), (k2, aI cI 12 U), (k3, aI cI 12 V), (ts, aQ cT 6 (tq ad n))] ++ blks cI ad T (n + 2)) ([(r, oR tr ts (ad 0 0) (ad 1 0) (nI n) tick), (tr, oK KF k1 k2 k3), (k1, aI cI 12 S), (k2, aI cI 12 U), (k3, aI cI 12 V), (ts, aQ cT 6 (tq ad n))] ++ blks cI ad T (n + 2)) (rNext x w S U V ns n T) 2 12 sz := by
  refine vx_ofW (cc := cX2_next) (maxL := 4) (ret := (some .int)) (by decide) rfl ?_
  intro p e s m args below meth c s₁ B hml hex hv
  obtain ⟨⟨hargs, hsz, hP, hR0, hK, hN⟩, hXZ, hXS⟩ := hv
  subst hsz
  have hAO := hXS.2.2.2.2.1
  have hx := B.exec
  have hb := B.bytes
  have hr := B.returns
  have hts := atoms_spec (ws := wsX2_next) B.pre
  have hown : s.vm.findClass RX2 = some m.cls := findClass_of_methodNamed B.named
  have hlocks := B.notSynchronized
  have hiX2 : ∀ w ∈ u_ws RX2 TX2 6, w ∈ wsX2_next := by decide +kernel
  have he : entryFrame m args 4 = F0 m 0 ((lg_sl [.ref r, .int x, .int w] ++ List.replicate (4 - (lg_sl [.ref r, .int x, .int w]).length) Slot.unset).toArray) [] := by rw [hargs]; exact lg_entry_eq m _ _
  rw [he]
  change W p l e rmX2_next s m args below meth c s.heap [] 0 0 (vx_MQ below (va_Qi (S := Unit) (fun z _ => rNext x w S U V ns n T = .inl z) (fun _ t => va_P D vwCl ([(r, oR tr ts (ad 0 0) (ad 1 0) (nI n) tick), (tr, oK KF k1 k2 k3), (k1, aI cI 12 S), (k2, aI cI 12 U), (k3, aI cI 12 V), (ts, aQ cT 6 (tq ad n))] ++ blks cI ad T (n + 2)) t.heap) (frA (List.map Prod.fst ([(r, oR tr ts (ad 0 0) (ad 1 0) (nI n) tick), (tr, oK KF k1 k2 k3), (k1, aI cI 12 S), (k2, aI cI 12 U), (k3, aI cI 12 V), (ts, aQ cT 6 (tq ad n))] ++ blks cI ad T (n + 2))) s.heap.size)) (XO D ([(r, oR tr ts (ad 0 0) (ad 1 0) (nI n) tick), (tr, oK KF k1 k2 k3), (k1, aI cI 12 S), (k2, aI cI 12 U), (k3, aI cI 12 V), (ts, aQ cT 6 (tq ad n))] ++ blks cI ad T (n + 2)) (fun E => rNext x w S U V ns n T = .inr E) (frA (List.map Prod.fst ([(r, oR tr ts (ad 0 0) (ad 1 0) (nI n) tick), (tr, oK KF k1 k2 k3), (k1, aI cI 12 S), (k2, aI cI 12 U), (k3, aI cI 12 V), (ts, aQ cT 6 (tq ad n))] ++ blks cI ad T (n + 2))) s.heap.size)) args s 2 12 (frA (List.map Prod.fst ([(r, oR tr ts (ad 0 0) (ad 1 0) (nI n) tick), (tr, oK KF k1 k2 k3), (k1, aI cI 12 S), (k2, aI cI 12 U), (k3, aI cI 12 V), (ts, aQ cT 6 (tq ad n))] ++ blks cI ad T (n + 2))) s.heap.size)) _
  obtain ⟨A, hAe⟩ : ∃ A, A = (frA (List.map Prod.fst ([(r, oR tr ts (ad 0 0) (ad 1 0) (nI n) tick), (tr, oK KF k1 k2 k3), (k1, aI cI 12 S), (k2, aI cI 12 U), (k3, aI cI 12 V), (ts, aQ cT 6 (tq ad n))] ++ blks cI ad T (n + 2))) s.heap.size) := ⟨_, rfl⟩
  rw [← hAe]
  have hXZ : XZ A s s.heap := by rw [hAe]; exact hXZ
  obtain ⟨Q, hQ⟩ : ∃ Q, Q = vx_MQ below (va_Qi (S := Unit) (fun z _ => rNext x w S U V ns n T = .inl z) (fun _ t => va_P D vwCl ([(r, oR tr ts (ad 0 0) (ad 1 0) (nI n) tick), (tr, oK KF k1 k2 k3), (k1, aI cI 12 S), (k2, aI cI 12 U), (k3, aI cI 12 V), (ts, aQ cT 6 (tq ad n))] ++ blks cI ad T (n + 2)) t.heap) A) (XO D ([(r, oR tr ts (ad 0 0) (ad 1 0) (nI n) tick), (tr, oK KF k1 k2 k3), (k1, aI cI 12 S), (k2, aI cI 12 U), (k3, aI cI 12 V), (ts, aQ cT 6 (tq ad n))] ++ blks cI ad T (n + 2)) (fun E => rNext x w S U V ns n T = .inr E) A) args s 2 12 A := ⟨_, rfl⟩
  rw [← hQ]
  have hl := lv_entry [.ref r, .int x, .int w] (n := 4) (Nat.le_of_ble_eq_true rfl)
  generalize (lg_sl [.ref r, .int x, .int w] ++ List.replicate (4 - (lg_sl [.ref r, .int x, .int w]).length) Slot.unset).toArray = ls at hl ⊢
  have hl : lv_has ls 4 [(0, .ref r), (1, .int x), (2, .int w)] := hl
  have hA0 : ∀ q ∈ List.map Prod.fst ([(r, oR tr ts (ad 0 0) (ad 1 0) (nI n) tick), (tr, oK KF k1 k2 k3), (k1, aI cI 12 S), (k2, aI cI 12 U), (k3, aI cI 12 V), (ts, aQ cT 6 (tq ad n))] ++ blks cI ad T (n + 2)), A q := by rw [hAe]; exact fun q h => Or.inl h
  have hA : ∀ q : Nat, s.heap.size ≤ q → A q := by rw [hAe]; exact fun q h => Or.inr h
  have hD : va_D A ([(r, oR tr ts (ad 0 0) (ad 1 0) (nI n) tick), (tr, oK KF k1 k2 k3), (k1, aI cI 12 S), (k2, aI cI 12 U), (k3, aI cI 12 V), (ts, aQ cT 6 (tq ad n))] ++ blks cI ad T (n + 2)) := sp_D (List.nodup_append.mp (show ((([(r, oR tr ts (ad 0 0) (ad 1 0) (nI n) tick), (tr, oK KF k1 k2 k3), (k1, aI cI 12 S), (k2, aI cI 12 U), (k3, aI cI 12 V), (ts, aQ cT 6 (tq ad n))] ++ blks cI ad T (n + 2)) : va_W).map Prod.fst ++ ([] : va_W).map Prod.fst).Nodup by rw [← List.map_append]; exact hN)).1 hA0
  have hN : (List.map Prod.fst (([(r, oR tr ts (ad 0 0) (ad 1 0) (nI n) tick), (tr, oK KF k1 k2 k3), (k1, aI cI 12 S), (k2, aI cI 12 U), (k3, aI cI 12 V), (ts, aQ cT 6 (tq ad n))] ++ blks cI ad T (n + 2)) ++ []) : List Nat).Nodup := hN
  have hS : va_S A s.heap s.heap [] := va_S.rf
  obtain ⟨H, hH0⟩ : ∃ H, H = s.heap := ⟨_, rfl⟩
  obtain ⟨locs, hlo⟩ : ∃ L : List Loc, L = [] := ⟨_, rfl⟩
  have hP : va_P D vwCl ([(r, oR tr ts (ad 0 0) (ad 1 0) (nI n) tick), (tr, oK KF k1 k2 k3), (k1, aI cI 12 S), (k2, aI cI 12 U), (k3, aI cI 12 V), (ts, aQ cT 6 (tq ad n))] ++ blks cI ad T (n + 2)) H := by rw [hH0]; exact hP
  have hS : va_S A s.heap H locs := by rw [hH0, hlo]; exact hS
  rw [show W p l e rmX2_next s m args below meth c s.heap [] 0 0 Q (F0 m 0 ls []) = W p l e rmX2_next s m args below meth c H locs 0 0 Q (F0 m 0 ls []) by rw [hH0, hlo]]
  clear hH0 hlo
  refine lv_aload_n hx hb dX2_next_0 rfl (lv_at hl 0 rfl) ?_
  refine lv_iload_n hx hb dX2_next_1 rfl (lv_at hl 1 rfl) ?_
  refine sp_oR (rest := []) (As := [.int x]) (W1 := ([(r, oR tr ts (ad 0 0) (ad 1 0) (nI n) tick), (tr, oK KF k1 k2 k3), (k1, aI cI 12 S), (k2, aI cI 12 U), (k3, aI cI 12 V), (ts, aQ cT 6 (tq ad n))] ++ blks cI ad T (n + 2))) (ci := 2) (w := ([(r, oR tr ts (ad 0 0) (ad 1 0) (nI n) tick), (tr, oK KF k1 k2 k3), (k1, aI cI 12 S), (k2, aI cI 12 U), (k3, aI cI 12 V), (ts, aQ cT 6 (tq ad n))] ++ blks cI ad T (n + 2))) (rs := fun E => rNext x w S U V ns n T = .inr E) ⟨hx, hb, hml, hown, hts⟩ (mX2_teamNumbered l D cI cT hl9 H.size r tr k1 k2 k3 ts ad n hn tick KF S U V T x) (cwV 1 hts gX2_next_X2_teamNumbered rfl rfl rfl (by decide +kernel) ⟨Nat.le_of_ble_eq_true rfl, Nat.le_of_ble_eq_true rfl⟩) hK hXZ hXS hP hD hS hA (xb_fst rfl cI ad _ _ (n + 2)) rfl rfl rfl rfl hl.1 rfl (Nat.le_of_ble_eq_true rfl) dX2_next_2 ⟨Nat.le_of_ble_eq_true rfl, Nat.le_of_ble_eq_true rfl⟩ hex hlocks rfl (fun E hE => by obtain ⟨hin, rfl⟩ := teamR_inr hE; simp [rNext, hin]) (Nat.le_of_ble_eq_true rfl) (Nat.le_of_ble_eq_true rfl) hQ (fun ra H locs hres hP hD hS => ?_)
  obtain ⟨i, cin, rfl, rfl⟩ := teamR_inl hn hres
  have hin : isIn (nI i) 0 (nI n - 1) = true := isIn_lt (by omega) cin
  have hcl : (nI i).toNatClampNeg = i := nI_clamp (by omega)
  refine lv_astore_n (lv' := [(3, .ref (ad (i + 2) 0)), (0, .ref r), (1, .int (nI i)), (2, .int w)]) hx hb dX2_next_5 rfl hl (by decide) rfl (fun ls hl => ?_)
  refine lv_iload_n hx hb dX2_next_6 rfl (lv_at hl 3 rfl) ?_
  refine lv_iconst (v := 0) hx hb dX2_next_7 (by decide) ?_
  refine lv_iconst (v := 2) hx hb dX2_next_8 (by decide) ?_
  refine sp_rS (rest := []) (As := [.int w, .int 0, .int 2]) ⟨hx, hb, hml, hown, hts⟩ (mX2_isOutside l D cI cT w 0 2) (va_cwS 3 hts gX2_next_X2_isOutside rfl rfl rfl (by decide +kernel) ⟨Nat.le_of_ble_eq_true rfl, Nat.le_of_ble_eq_true rfl⟩) hK (show va_P D vwCl [] _ from fun k q h => by simp at h) rfl hl.1 rfl (Nat.le_of_ble_eq_true rfl) dX2_next_9 ⟨Nat.le_of_ble_eq_true rfl, Nat.le_of_ble_eq_true rfl⟩ ?_
  refine sp_if_eq (tgt := 25) hx hb dX2_next_12 (by decide) (fun c12 => ?_) (fun c12 => ?_)
  · skip
    have c12 : isIn w 0 2 = true := isIn_not c12
    refine lv_iload_n hx hb dX2_next_25 rfl (lv_at hl 3 rfl) ?_
    refine lv_if_ne (tgt := 34) hx hb dX2_next_26 (by decide) (fun c26 => ?_) (fun c26 => ?_)
    · skip
      refine lv_iload_n hx hb dX2_next_34 rfl (lv_at hl 3 rfl) ?_
      refine lv_iconst (v := 1) hx hb dX2_next_35 (by decide) ?_
      refine lv_icmp_ne (tgt := 50) hx hb dX2_next_36 (by decide) (fun c36 => ?_) (fun c36 => ?_)
      · skip
        refine lv_aload_n hx hb dX2_next_50 rfl (lv_at hl 0 rfl) ?_
        refine lv_aload_n hx hb dX2_next_51 rfl (lv_at hl 0 rfl) ?_
        refine sp_rV (rest := [.ref (ad (i + 2) 0)]) (As := []) ⟨hx, hb, hml, hown, hts⟩ (mX0_pull l D cI cT (ad (i + 2) 0) (ad (i + 2) 1) (ad (i + 2) 2) (ad (i + 2) 3) ((T (i + 2)).1) ) (cwV 0 hts gX2_next_X0_pull rfl rfl rfl (by decide +kernel) ⟨Nat.le_of_ble_eq_true rfl, Nat.le_of_ble_eq_true rfl⟩) hK ((blk_P hP (show i + 2 < n + 2 by omega)).sub (ws' := [(ad (i + 2) 0, oT ((T (i + 2)).1) (ad (i + 2) 1) (ad (i + 2) 2) (ad (i + 2) 3))]) [0] rfl) (ci := 0) rfl rfl rfl rfl hl.1 rfl (Nat.le_of_ble_eq_true rfl) dX2_next_52 ⟨Nat.le_of_ble_eq_true rfl, Nat.le_of_ble_eq_true rfl⟩ ?_
        refine lv_aload_n hx hb dX2_next_55 rfl (lv_at hl 0 rfl) ?_
        refine lv_aload_n hx hb dX2_next_56 rfl (lv_at hl 1 rfl) ?_
        refine va_get (D := D) (ci := 2) (v := .ref tr) (C := RX2) (T := TX2) (N := 6) hx hb hts hiX2 hown hK.1 hP 0 rfl rfl 0 (by decide) (hts (.fieldLink RX2 10 "SledgeRace" "track" "LSledgeRace$Track;") (by decide +kernel)) (fun _ h9 => h9) rfl dX2_next_57 ?_
        refine sp_rV (rest := [.int (cPull ((T (i + 2)).1)), .ref (ad (i + 2) 0)]) (As := [.ref tr]) ⟨hx, hb, hml, hown, hts⟩ (mX0_drag l D cI cT (ad (i + 2) 0) (ad (i + 2) 1) (ad (i + 2) 2) (ad (i + 2) 3) (T (i + 2)).1 (T (i + 2)).2.1 (cN (T (i + 2))) (hT i cin).1.2 (hT i cin).1.1 tr k1 k2 k3 KF S U V ns hns hk) (cwV 1 hts gX2_next_X0_drag rfl rfl rfl (by decide +kernel) ⟨Nat.le_of_ble_eq_true rfl, Nat.le_of_ble_eq_true rfl⟩) hK (va_P.app (w1 := [(ad (i + 2) 0, oT ((T (i + 2)).1) (ad (i + 2) 1) (ad (i + 2) 2) (ad (i + 2) 3)), (ad (i + 2) 1, aI cI 8 ((T (i + 2)).2.1))]) (w2 := [(tr, oK KF k1 k2 k3), (k1, aI cI 12 S), (k2, aI cI 12 U), (k3, aI cI 12 V)]) ((blk_P hP (show i + 2 < n + 2 by omega)).sub (ws' := [(ad (i + 2) 0, oT ((T (i + 2)).1) (ad (i + 2) 1) (ad (i + 2) 2) (ad (i + 2) 3)), (ad (i + 2) 1, aI cI 8 ((T (i + 2)).2.1))]) [0, 1] rfl) (sp_pick (xb_P hP) [1, 2, 3, 4] rfl)) (ci := 0) rfl rfl rfl rfl hl.1 rfl (Nat.le_of_ble_eq_true rfl) dX2_next_60 ⟨Nat.le_of_ble_eq_true rfl, Nat.le_of_ble_eq_true rfl⟩ ?_
        refine sp_rV (rest := []) (As := [.int (cPull ((T (i + 2)).1)), .int (cDrag (T (i + 2)).1 (T (i + 2)).2.1 (cN (T (i + 2))) (cGr S U ns ((T (i + 2)).1 10)) (cGr S V ns ((T (i + 2)).1 10)))]) ⟨hx, hb, hml, hown, hts⟩ (mX0_wayWith l D cI cT (ad (i + 2) 0) (ad (i + 2) 1) (ad (i + 2) 2) (ad (i + 2) 3) ((T (i + 2)).1) (cPull ((T (i + 2)).1)) (cDrag (T (i + 2)).1 (T (i + 2)).2.1 (cN (T (i + 2))) (cGr S U ns ((T (i + 2)).1 10)) (cGr S V ns ((T (i + 2)).1 10)))) (cwV 2 hts gX2_next_X0_wayWith rfl rfl rfl (by decide +kernel) ⟨Nat.le_of_ble_eq_true rfl, Nat.le_of_ble_eq_true rfl⟩) hK ((blk_P hP (show i + 2 < n + 2 by omega)).sub (ws' := [(ad (i + 2) 0, oT ((T (i + 2)).1) (ad (i + 2) 1) (ad (i + 2) 2) (ad (i + 2) 3))]) [0] rfl) (ci := 0) rfl rfl rfl rfl hl.1 rfl (Nat.le_of_ble_eq_true rfl) dX2_next_63 ⟨Nat.le_of_ble_eq_true rfl, Nat.le_of_ble_eq_true rfl⟩ ?_
        have hv9 : rNext (nI i) w S U V ns n T = .inl (cWay ((T (i + 2)).1) (cPull ((T (i + 2)).1)) (cDrag (T (i + 2)).1 (T (i + 2)).2.1 (cN (T (i + 2))) (cGr S U ns ((T (i + 2)).1 10)) (cGr S V ns ((T (i + 2)).1 10)))) := by unfold rNext; rw [if_pos hin, if_pos c12, hcl]; simp [c26, c36]
        have hP9 : va_P D vwCl ([(r, oR tr ts (ad 0 0) (ad 1 0) (nI n) tick), (tr, oK KF k1 k2 k3), (k1, aI cI 12 S), (k2, aI cI 12 U), (k3, aI cI 12 V), (ts, aQ cT 6 (tq ad n))] ++ blks cI ad T (n + 2)) H := hP
        subst hQ
        refine vx_ret (W.widen (k := 2) (n := 12) (Nat.le_of_ble_eq_true rfl) (Nat.le_of_ble_eq_true rfl) ?_)
        exact W.iret hx hb hr (fun t ht hW => ⟨⟨_, (), rfl, hv9, by show va_P D vwCl _ t.heap; rw [ht]; exact hP9⟩, hS.F ht⟩) hS.2.2 dX2_next_66
      · skip
        refine lv_aload_n hx hb dX2_next_39 rfl (lv_at hl 0 rfl) ?_
        refine lv_aload_n hx hb dX2_next_40 rfl (lv_at hl 1 rfl) ?_
        refine va_get (D := D) (ci := 2) (v := .ref tr) (C := RX2) (T := TX2) (N := 6) hx hb hts hiX2 hown hK.1 hP 0 rfl rfl 0 (by decide) (hts (.fieldLink RX2 10 "SledgeRace" "track" "LSledgeRace$Track;") (by decide +kernel)) (fun _ h9 => h9) rfl dX2_next_41 ?_
        refine sp_rV (rest := []) (As := [.ref tr]) ⟨hx, hb, hml, hown, hts⟩ (mX0_drag l D cI cT (ad (i + 2) 0) (ad (i + 2) 1) (ad (i + 2) 2) (ad (i + 2) 3) (T (i + 2)).1 (T (i + 2)).2.1 (cN (T (i + 2))) (hT i cin).1.2 (hT i cin).1.1 tr k1 k2 k3 KF S U V ns hns hk) (cwV 1 hts gX2_next_X0_drag rfl rfl rfl (by decide +kernel) ⟨Nat.le_of_ble_eq_true rfl, Nat.le_of_ble_eq_true rfl⟩) hK (va_P.app (w1 := [(ad (i + 2) 0, oT ((T (i + 2)).1) (ad (i + 2) 1) (ad (i + 2) 2) (ad (i + 2) 3)), (ad (i + 2) 1, aI cI 8 ((T (i + 2)).2.1))]) (w2 := [(tr, oK KF k1 k2 k3), (k1, aI cI 12 S), (k2, aI cI 12 U), (k3, aI cI 12 V)]) ((blk_P hP (show i + 2 < n + 2 by omega)).sub (ws' := [(ad (i + 2) 0, oT ((T (i + 2)).1) (ad (i + 2) 1) (ad (i + 2) 2) (ad (i + 2) 3)), (ad (i + 2) 1, aI cI 8 ((T (i + 2)).2.1))]) [0, 1] rfl) (sp_pick (xb_P hP) [1, 2, 3, 4] rfl)) (ci := 0) rfl rfl rfl rfl hl.1 rfl (Nat.le_of_ble_eq_true rfl) dX2_next_44 ⟨Nat.le_of_ble_eq_true rfl, Nat.le_of_ble_eq_true rfl⟩ ?_
        refine lv_goto (tgt := 66) hx hb dX2_next_47 (by decide) ?_
        have hv9 : rNext (nI i) w S U V ns n T = .inl (cDrag (T (i + 2)).1 (T (i + 2)).2.1 (cN (T (i + 2))) (cGr S U ns ((T (i + 2)).1 10)) (cGr S V ns ((T (i + 2)).1 10))) := by unfold rNext; rw [if_pos hin, if_pos c12, hcl]; simp [c26, c36]
        have hP9 : va_P D vwCl ([(r, oR tr ts (ad 0 0) (ad 1 0) (nI n) tick), (tr, oK KF k1 k2 k3), (k1, aI cI 12 S), (k2, aI cI 12 U), (k3, aI cI 12 V), (ts, aQ cT 6 (tq ad n))] ++ blks cI ad T (n + 2)) H := hP
        subst hQ
        refine vx_ret (W.widen (k := 2) (n := 12) (Nat.le_of_ble_eq_true rfl) (Nat.le_of_ble_eq_true rfl) ?_)
        exact W.iret hx hb hr (fun t ht hW => ⟨⟨_, (), rfl, hv9, by show va_P D vwCl _ t.heap; rw [ht]; exact hP9⟩, hS.F ht⟩) hS.2.2 dX2_next_66
    · skip
      refine lv_aload_n hx hb dX2_next_29 rfl (lv_at hl 0 rfl) ?_
      refine sp_rV (rest := []) (As := []) ⟨hx, hb, hml, hown, hts⟩ (mX0_pull l D cI cT (ad (i + 2) 0) (ad (i + 2) 1) (ad (i + 2) 2) (ad (i + 2) 3) ((T (i + 2)).1) ) (cwV 0 hts gX2_next_X0_pull rfl rfl rfl (by decide +kernel) ⟨Nat.le_of_ble_eq_true rfl, Nat.le_of_ble_eq_true rfl⟩) hK ((blk_P hP (show i + 2 < n + 2 by omega)).sub (ws' := [(ad (i + 2) 0, oT ((T (i + 2)).1) (ad (i + 2) 1) (ad (i + 2) 2) (ad (i + 2) 3))]) [0] rfl) (ci := 0) rfl rfl rfl rfl hl.1 rfl (Nat.le_of_ble_eq_true rfl) dX2_next_30 ⟨Nat.le_of_ble_eq_true rfl, Nat.le_of_ble_eq_true rfl⟩ ?_
      have hv9 : rNext (nI i) w S U V ns n T = .inl (cPull ((T (i + 2)).1)) := by unfold rNext; rw [if_pos hin, if_pos c12, hcl]; simp [c26]
      have hP9 : va_P D vwCl ([(r, oR tr ts (ad 0 0) (ad 1 0) (nI n) tick), (tr, oK KF k1 k2 k3), (k1, aI cI 12 S), (k2, aI cI 12 U), (k3, aI cI 12 V), (ts, aQ cT 6 (tq ad n))] ++ blks cI ad T (n + 2)) H := hP
      subst hQ
      refine vx_ret (W.widen (k := 2) (n := 12) (Nat.le_of_ble_eq_true rfl) (Nat.le_of_ble_eq_true rfl) ?_)
      exact W.iret hx hb hr (fun t ht hW => ⟨⟨_, (), rfl, hv9, by show va_P D vwCl _ t.heap; rw [ht]; exact hP9⟩, hS.F ht⟩) hS.2.2 dX2_next_33
  · skip
    have c12 : isIn w 0 2 = false := isIn_not c12
    subst hQ
    exact sp_throw (cls := xIOB) (text := "what is not 0 to 2") (w := ([(r, oR tr ts (ad 0 0) (ad 1 0) (nI n) tick), (tr, oK KF k1 k2 k3), (k1, aI cI 12 S), (k2, aI cI 12 U), (k3, aI cI 12 V), (ts, aQ cT 6 (tq ad n))] ++ blks cI ad T (n + 2))) (res := fun E => rNext (nI i) w S U V ns n T = .inr E) hx hb hl9 hown sp_fit3 sp_fits (by decide) (hts (.classLink RX2 122 xIOB) (by decide +kernel)) (hts (.initialized xIOB) (by decide +kernel)) hXS.2.2.2.1 (fun w hw => hts w (by first | exact List.mem_cons_of_mem _ (List.mem_append_right _ hw) | exact List.mem_cons_of_mem _ (List.mem_append_left _ (List.mem_append_right _ hw)) | exact List.mem_cons_of_mem _ (List.mem_append_left _ (List.mem_append_left _ (List.mem_append_right _ hw))))) sp_ng3 sp_gw3 hXZ hXS hS hP (hl.1.trans hml.symm) dX2_next_15 dX2_next_18 dX2_next_19 dX2_next_21 dX2_next_24 hex (Nat.le_of_ble_eq_true rfl) (Nat.le_of_ble_eq_true rfl) (Nat.le_of_ble_eq_true rfl) (Nat.le_of_ble_eq_true rfl) hlocks (Nat.le_of_ble_eq_true rfl) (Nat.le_of_ble_eq_true rfl) (show rNext (nI i) w S U V ns n T = .inr xIOB from by simp [rNext, c12, hin, hcl])
