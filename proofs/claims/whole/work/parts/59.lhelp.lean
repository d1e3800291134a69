abbrev rmL_setLength : Room := { frames := 8, cells := 1, slots := 6, locals := 124 }
set_option maxHeartbeats 4000000 in
set_option maxRecDepth 100000 in
/-- the law's setLength -/
theorem mL_setLength (l : Launch) (D : va_G) (cI cT cJ : ClassId) (hl9 : l.stackTraces = false) (sz o : Nat) (f : Nat → Int64) (r tr k1 k2 k3 ts : Nat) (ad : Nat → Nat → Nat) (n : Nat) (hn : n ≤ 6) (tick : Int32) (KF S U V : Nat → Int32) (T : Nat → TV) (x : Int32) : MetHm l D cI cT cJ yL_setLength wsL_setLength rmL_setLength [.ref r, .int x, .ref o] ([(r, oR tr ts (ad 0 0) (ad 1 0) (nI n) tick), (tr, oK KF k1 k2 k3), (k1, aI cI 12 S), (k2, aI cI 12 U), (k3, aI cI 12 V), (ts, aQ cT 6 (tq ad n))] ++ blks cI ad T (n + 2)) ([(r, oR tr ts (ad 0 0) (ad 1 0) (nI n) tick), (tr, oK (upd KF 4 x) k1 k2 k3), (k1, aI cI 12 S), (k2, aI cI 12 U), (k3, aI cI 12 V), (ts, aQ cT 6 (tq ad n))] ++ blks cI ad T (n + 2)) o f hc12 (rLen x KF tick) 1 6 sz := by
  refine Met.ofX (vx_ofWH (cc := cL_setLength) (maxL := 4) (ret := (some .int)) (by decide) rfl ?_)
  intro p e s m args below meth c s₁ B hml hv
  obtain ⟨⟨⟨hargs, hsz, hP, hR0, hK, hN⟩, hXZ, hXS⟩, hO, ho, hJ, hXN⟩ := hv
  subst hsz
  have hx := B.exec
  have hb := B.bytes
  have hr := B.returns
  have hts := atoms_spec (ws := wsL_setLength) B.pre
  have hown : s.vm.findClass RL = some m.cls := findClass_of_methodNamed B.named
  have hlocks := B.notSynchronized
  have htab := vx_table (x := yL_setLength) B (hts (Cond.codeWith yL_setLength cL_setLength 4 (some .int) [(0, 9, 12, 13), (0, 9, 15, 15)]) List.mem_cons_self)
  have he : entryFrame m args 4 = F0 m 0 ((lg_sl [.ref r, .int x, .ref o] ++ List.replicate (4 - (lg_sl [.ref r, .int x, .ref o]).length) Slot.unset).toArray) [] := by rw [hargs]; exact lg_entry_eq m _ _
  rw [he]
  obtain ⟨A, hAe⟩ : ∃ A, A = (frA (List.map Prod.fst ([(r, oR tr ts (ad 0 0) (ad 1 0) (nI n) tick), (tr, oK KF k1 k2 k3), (k1, aI cI 12 S), (k2, aI cI 12 U), (k3, aI cI 12 V), (ts, aQ cT 6 (tq ad n))] ++ blks cI ad T (n + 2)) ++ [o]) s.heap.size) := ⟨_, rfl⟩
  change W p l e rmL_setLength s m args below meth c s.heap [] 0 0 (vx_MQ below (va_Qi (S := Nat → Int64) (fun z f2 => z = hcode hc12 (rLen x KF tick) ∧ ∀ v, (rLen x KF tick) = .inl v → f2 0 = Int32.toInt64 v) (fun f2 t => va_P D vwCl (hWd (rLen x KF tick) ([(r, oR tr ts (ad 0 0) (ad 1 0) (nI n) tick), (tr, oK KF k1 k2 k3), (k1, aI cI 12 S), (k2, aI cI 12 U), (k3, aI cI 12 V), (ts, aQ cT 6 (tq ad n))] ++ blks cI ad T (n + 2)) ([(r, oR tr ts (ad 0 0) (ad 1 0) (nI n) tick), (tr, oK (upd KF 4 x) k1 k2 k3), (k1, aI cI 12 S), (k2, aI cI 12 U), (k3, aI cI 12 V), (ts, aQ cT 6 (tq ad n))] ++ blks cI ad T (n + 2))) t.heap ∧ va_P D vwCl [(o, aJ cJ f2)] t.heap) (frA (List.map Prod.fst ([(r, oR tr ts (ad 0 0) (ad 1 0) (nI n) tick), (tr, oK KF k1 k2 k3), (k1, aI cI 12 S), (k2, aI cI 12 U), (k3, aI cI 12 V), (ts, aQ cT 6 (tq ad n))] ++ blks cI ad T (n + 2)) ++ [o]) s.heap.size)) (fun _ _ _ => False) args s 1 6 (frA (List.map Prod.fst ([(r, oR tr ts (ad 0 0) (ad 1 0) (nI n) tick), (tr, oK KF k1 k2 k3), (k1, aI cI 12 S), (k2, aI cI 12 U), (k3, aI cI 12 V), (ts, aQ cT 6 (tq ad n))] ++ blks cI ad T (n + 2)) ++ [o]) s.heap.size)) _
  rw [← hAe]
  have hXZ : XZ A s s.heap := by rw [hAe]; exact hXZ
  obtain ⟨Q, hQ⟩ : ∃ Q, Q = vx_MQ below (va_Qi (S := Nat → Int64) (fun z f2 => z = hcode hc12 (rLen x KF tick) ∧ ∀ v, (rLen x KF tick) = .inl v → f2 0 = Int32.toInt64 v) (fun f2 t => va_P D vwCl (hWd (rLen x KF tick) ([(r, oR tr ts (ad 0 0) (ad 1 0) (nI n) tick), (tr, oK KF k1 k2 k3), (k1, aI cI 12 S), (k2, aI cI 12 U), (k3, aI cI 12 V), (ts, aQ cT 6 (tq ad n))] ++ blks cI ad T (n + 2)) ([(r, oR tr ts (ad 0 0) (ad 1 0) (nI n) tick), (tr, oK (upd KF 4 x) k1 k2 k3), (k1, aI cI 12 S), (k2, aI cI 12 U), (k3, aI cI 12 V), (ts, aQ cT 6 (tq ad n))] ++ blks cI ad T (n + 2))) t.heap ∧ va_P D vwCl [(o, aJ cJ f2)] t.heap) A) (fun _ _ _ => False) args s 1 6 A := ⟨_, rfl⟩
  rw [← hQ]
  have hl := lv_entry [.ref r, .int x, .ref o] (n := 4) (Nat.le_of_ble_eq_true rfl)
  generalize (lg_sl [.ref r, .int x, .ref o] ++ List.replicate (4 - (lg_sl [.ref r, .int x, .ref o]).length) Slot.unset).toArray = ls at hl ⊢
  have hl : lv_has ls 4 [(0, .ref r), (1, .int x), (2, .ref o)] := hl
  have hA : ∀ q : Nat, s.heap.size ≤ q → A q := by rw [hAe]; exact fun q h => Or.inr h
  have hAo : A o := by rw [hAe]; exact Or.inl (List.mem_append_right _ (List.mem_singleton.mpr rfl))
  have hD : va_D A ([(r, oR tr ts (ad 0 0) (ad 1 0) (nI n) tick), (tr, oK KF k1 k2 k3), (k1, aI cI 12 S), (k2, aI cI 12 U), (k3, aI cI 12 V), (ts, aQ cT 6 (tq ad n))] ++ blks cI ad T (n + 2)) := sp_D (by rw [List.append_nil] at hN; exact hN) (by rw [hAe]; exact fun q h => Or.inl (List.mem_append_left _ h))
  have hS : va_S A s.heap s.heap [] := va_S.rf
  obtain ⟨H, hH0⟩ : ∃ H, H = s.heap := ⟨_, rfl⟩
  obtain ⟨locs, hlo⟩ : ∃ L : List Loc, L = [] := ⟨_, rfl⟩
  have hP : va_P D vwCl ([(r, oR tr ts (ad 0 0) (ad 1 0) (nI n) tick), (tr, oK KF k1 k2 k3), (k1, aI cI 12 S), (k2, aI cI 12 U), (k3, aI cI 12 V), (ts, aQ cT 6 (tq ad n))] ++ blks cI ad T (n + 2)) H := by rw [hH0]; exact hP
  have hO : va_P D vwCl [(o, aJ cJ f)] H := by rw [hH0]; exact hO
  have hS : va_S A s.heap H locs := by rw [hH0, hlo]; exact hS
  rw [show W p l e rmL_setLength s m args below meth c s.heap [] 0 0 Q (F0 m 0 ls []) = W p l e rmL_setLength s m args below meth c H locs 0 0 Q (F0 m 0 ls []) by rw [hH0, hlo]]
  clear hH0 hlo
  refine lv_aload_n hx hb dL_setLength_0 rfl (lv_at hl 2 rfl) ?_
  refine lv_iconst (v := 0) hx hb dL_setLength_1 (by decide) ?_
  refine lv_aload_n hx hb dL_setLength_2 rfl (lv_at hl 0 rfl) ?_
  refine lv_iload_n hx hb dL_setLength_3 rfl (lv_at hl 1 rfl) ?_
  refine sp_oI (rest := [.int 0, .ref o]) (As := [.int x]) (W1 := ([(r, oR tr ts (ad 0 0) (ad 1 0) (nI n) tick), (tr, oK (upd KF 4 x) k1 k2 k3), (k1, aI cI 12 S), (k2, aI cI 12 U), (k3, aI cI 12 V), (ts, aQ cT 6 (tq ad n))] ++ blks cI ad T (n + 2))) (ci := 2) ⟨hx, hb, hml, hown, hts⟩ (mX2_setLength l D cI cT hl9 H.size r tr k1 k2 k3 ts ad n hn tick KF S U V T x) (cwV 1 hts gL_setLength_X2_setLength rfl rfl rfl (by decide +kernel) ⟨Nat.le_of_ble_eq_true rfl, Nat.le_of_ble_eq_true rfl⟩) hK hXZ hXS hP hO ho hD hS hA (xb_fst rfl cI ad _ _ (n + 2)) rfl rfl rfl rfl hl.1 rfl (Nat.le_of_ble_eq_true rfl) dL_setLength_4 ⟨Nat.le_of_ble_eq_true rfl, Nat.le_of_ble_eq_true rfl⟩ (fun z H locs hres hP hO hD hS => ?_) (fun E ce q9 H locs hres hP hO hS h1 h2 h3 => ?_)
  · skip
    refine lv_i2l (v := Int32.toInt64 z) hx hb dL_setLength_7 rfl ?_
    refine sp_ost hx hb hJ hP hO (by first | exact ho | (intro h9; exact ho (by rw [← xb_fst rfl cI ad _ _ (n + 2)]; exact h9))) hD hAo hS dL_setLength_8 (fun f2 H locs hf2 hP hO hS => ?_)
    refine lv_goto (tgt := 18) hx hb dL_setLength_9 (by decide) ?_
    refine lv_iconst (v := 0) hx hb dL_setLength_18 (by decide) ?_
    subst hQ
    refine vx_ret (W.widen (k := 1) (n := 6) (Nat.le_of_ble_eq_true rfl) (Nat.le_of_ble_eq_true rfl) ?_)
    exact W.iret hx hb hr (fun t ht hW => ⟨⟨_, f2, rfl, ⟨by rw [hres]; rfl, fun v hv => by rw [hres] at hv; rw [← Sum.inl.inj hv]; exact hf2⟩, by dsimp only; rw [ht, hres]; exact ⟨hP, hO⟩⟩, hS.F ht⟩) hS.2.2 dL_setLength_19
  · skip
    have hE : E = xIAE ∨ E = xISE := by
      simp only [rLen] at hres
      repeat' split at hres
      all_goals first | cases hres; done | exact Or.inl (Sum.inr.inj hres).symm | exact Or.inr (Sum.inr.inj hres).symm
    rcases hE with rfl | rfl
    · skip
      refine vx_catch (own := RL) (name := xIAE) hown [] (⟨0, 9, 12, 13⟩ : ExceptionTableEntry) [(⟨0, 9, 15, 15⟩ : ExceptionTableEntry)] (htab.trans rfl) (fun z hz => absurd hz List.not_mem_nil) rfl (by decide) (hts (.classLink RL 13 xIAE) (by decide +kernel)) (va_Nw.use rfl hXS.2.1) h1 h2 h3 ?_
      show W p l e _ s m args below meth c H locs _ _ Q (F0 m 12 ls [.ref q9])
      refine lv_astore_n (lv' := [(3, .ref q9), (0, .ref r), (1, .int x), (2, .ref o)]) hx hb dL_setLength_12 rfl hl (by decide) rfl (fun ls hl => ?_)
      refine lv_iconst (v := 1) hx hb dL_setLength_13 (by decide) ?_
      subst hQ
      refine vx_ret (W.widen (k := 1) (n := 6) (Nat.le_of_ble_eq_true rfl) (Nat.le_of_ble_eq_true rfl) ?_)
      exact W.iret hx hb hr (fun t ht hW => ⟨⟨_, f, rfl, ⟨by rw [hres]; simp [hcode, hc12, xIAE, xISE, xIOB], fun v hv => by rw [hres] at hv; cases hv⟩, by dsimp only; rw [ht, hres]; exact ⟨hP, hO⟩⟩, hS.F ht⟩) hS.2.2 dL_setLength_14
    · skip
      refine vx_catch (own := RL) (name := xISE) hown [(⟨0, 9, 12, 13⟩ : ExceptionTableEntry)] (⟨0, 9, 15, 15⟩ : ExceptionTableEntry) [] (htab.trans rfl) (fun z hz => Or.inr ((fun e => by subst e; exact ⟨by decide, xIAE, (hts (.classLink RL 13 xIAE) (by decide +kernel)), hXN.1⟩) (List.mem_singleton.mp hz))) rfl (by decide) (hts (.classLink RL 15 xISE) (by decide +kernel)) (va_Nw.use rfl hXS.2.2.1) h1 h2 h3 ?_
      show W p l e _ s m args below meth c H locs _ _ Q (F0 m 15 ls [.ref q9])
      refine lv_astore_n (lv' := [(3, .ref q9), (0, .ref r), (1, .int x), (2, .ref o)]) hx hb dL_setLength_15 rfl hl (by decide) rfl (fun ls hl => ?_)
      refine lv_iconst (v := 2) hx hb dL_setLength_16 (by decide) ?_
      subst hQ
      refine vx_ret (W.widen (k := 1) (n := 6) (Nat.le_of_ble_eq_true rfl) (Nat.le_of_ble_eq_true rfl) ?_)
      exact W.iret hx hb hr (fun t ht hW => ⟨⟨_, f, rfl, ⟨by rw [hres]; simp [hcode, hc12, xIAE, xISE, xIOB], fun v hv => by rw [hres] at hv; cases hv⟩, by dsimp only; rw [ht, hres]; exact ⟨hP, hO⟩⟩, hS.F ht⟩) hS.2.2 dL_setLength_17

abbrev rmL_lay : Room := { frames := 7, cells := 1, slots := 6, locals := 105 }
set_option maxHeartbeats 4000000 in
set_option maxRecDepth 100000 in
/-- the law's lay -/
theorem mL_lay (l : Launch) (D : va_G) (cI cT cJ : ClassId) (hl9 : l.stackTraces = false) (sz o : Nat) (f : Nat → Int64) (r tr k1 k2 k3 ts : Nat) (ad : Nat → Nat → Nat) (n : Nat) (hn : n ≤ 6) (tick : Int32) (KF S U V : Nat → Int32) (T : Nat → TV) (ns : Nat) (hns : ns ≤ 12) (hk : KF 3 = nI ns) (x a b : Int32) : MetHm l D cI cT cJ yL_lay wsL_lay rmL_lay [.ref r, .int x, .int a, .int b, .ref o] ([(r, oR tr ts (ad 0 0) (ad 1 0) (nI n) tick), (tr, oK KF k1 k2 k3), (k1, aI cI 12 S), (k2, aI cI 12 U), (k3, aI cI 12 V), (ts, aQ cT 6 (tq ad n))] ++ blks cI ad T (n + 2)) ([(r, oR tr ts (ad 0 0) (ad 1 0) (nI n) tick), (tr, oK (cPutK S ns x KF) k1 k2 k3), (k1, aI cI 12 (cPut S ns x S x)), (k2, aI cI 12 (cPut S ns x U a)), (k3, aI cI 12 (cPut S ns x V b)), (ts, aQ cT 6 (tq ad n))] ++ blks cI ad T (n + 2)) o f hc12 (rLay x a b KF S ns) 1 6 sz := by
  refine Met.ofX (vx_ofWH (cc := cL_lay) (maxL := 6) (ret := (some .int)) (by decide) rfl ?_)
  intro p e s m args below meth c s₁ B hml hv
  obtain ⟨⟨⟨hargs, hsz, hP, hR0, hK, hN⟩, hXZ, hXS⟩, hO, ho, hJ, hXN⟩ := hv
  subst hsz
  have hx := B.exec
  have hb := B.bytes
  have hr := B.returns
  have hts := atoms_spec (ws := wsL_lay) B.pre
  have hown : s.vm.findClass RL = some m.cls := findClass_of_methodNamed B.named
  have hlocks := B.notSynchronized
  have htab := vx_table (x := yL_lay) B (hts (Cond.codeWith yL_lay cL_lay 6 (some .int) [(0, 12, 15, 13), (0, 12, 19, 15)]) List.mem_cons_self)
  have he : entryFrame m args 6 = F0 m 0 ((lg_sl [.ref r, .int x, .int a, .int b, .ref o] ++ List.replicate (6 - (lg_sl [.ref r, .int x, .int a, .int b, .ref o]).length) Slot.unset).toArray) [] := by rw [hargs]; exact lg_entry_eq m _ _
  rw [he]
  obtain ⟨A, hAe⟩ : ∃ A, A = (frA (List.map Prod.fst ([(r, oR tr ts (ad 0 0) (ad 1 0) (nI n) tick), (tr, oK KF k1 k2 k3), (k1, aI cI 12 S), (k2, aI cI 12 U), (k3, aI cI 12 V), (ts, aQ cT 6 (tq ad n))] ++ blks cI ad T (n + 2)) ++ [o]) s.heap.size) := ⟨_, rfl⟩
  change W p l e rmL_lay s m args below meth c s.heap [] 0 0 (vx_MQ below (va_Qi (S := Nat → Int64) (fun z f2 => z = hcode hc12 (rLay x a b KF S ns) ∧ ∀ v, (rLay x a b KF S ns) = .inl v → f2 0 = Int32.toInt64 v) (fun f2 t => va_P D vwCl (hWd (rLay x a b KF S ns) ([(r, oR tr ts (ad 0 0) (ad 1 0) (nI n) tick), (tr, oK KF k1 k2 k3), (k1, aI cI 12 S), (k2, aI cI 12 U), (k3, aI cI 12 V), (ts, aQ cT 6 (tq ad n))] ++ blks cI ad T (n + 2)) ([(r, oR tr ts (ad 0 0) (ad 1 0) (nI n) tick), (tr, oK (cPutK S ns x KF) k1 k2 k3), (k1, aI cI 12 (cPut S ns x S x)), (k2, aI cI 12 (cPut S ns x U a)), (k3, aI cI 12 (cPut S ns x V b)), (ts, aQ cT 6 (tq ad n))] ++ blks cI ad T (n + 2))) t.heap ∧ va_P D vwCl [(o, aJ cJ f2)] t.heap) (frA (List.map Prod.fst ([(r, oR tr ts (ad 0 0) (ad 1 0) (nI n) tick), (tr, oK KF k1 k2 k3), (k1, aI cI 12 S), (k2, aI cI 12 U), (k3, aI cI 12 V), (ts, aQ cT 6 (tq ad n))] ++ blks cI ad T (n + 2)) ++ [o]) s.heap.size)) (fun _ _ _ => False) args s 1 6 (frA (List.map Prod.fst ([(r, oR tr ts (ad 0 0) (ad 1 0) (nI n) tick), (tr, oK KF k1 k2 k3), (k1, aI cI 12 S), (k2, aI cI 12 U), (k3, aI cI 12 V), (ts, aQ cT 6 (tq ad n))] ++ blks cI ad T (n + 2)) ++ [o]) s.heap.size)) _
  rw [← hAe]
  have hXZ : XZ A s s.heap := by rw [hAe]; exact hXZ
  obtain ⟨Q, hQ⟩ : ∃ Q, Q = vx_MQ below (va_Qi (S := Nat → Int64) (fun z f2 => z = hcode hc12 (rLay x a b KF S ns) ∧ ∀ v, (rLay x a b KF S ns) = .inl v → f2 0 = Int32.toInt64 v) (fun f2 t => va_P D vwCl (hWd (rLay x a b KF S ns) ([(r, oR tr ts (ad 0 0) (ad 1 0) (nI n) tick), (tr, oK KF k1 k2 k3), (k1, aI cI 12 S), (k2, aI cI 12 U), (k3, aI cI 12 V), (ts, aQ cT 6 (tq ad n))] ++ blks cI ad T (n + 2)) ([(r, oR tr ts (ad 0 0) (ad 1 0) (nI n) tick), (tr, oK (cPutK S ns x KF) k1 k2 k3), (k1, aI cI 12 (cPut S ns x S x)), (k2, aI cI 12 (cPut S ns x U a)), (k3, aI cI 12 (cPut S ns x V b)), (ts, aQ cT 6 (tq ad n))] ++ blks cI ad T (n + 2))) t.heap ∧ va_P D vwCl [(o, aJ cJ f2)] t.heap) A) (fun _ _ _ => False) args s 1 6 A := ⟨_, rfl⟩
  rw [← hQ]
  have hl := lv_entry [.ref r, .int x, .int a, .int b, .ref o] (n := 6) (Nat.le_of_ble_eq_true rfl)
  generalize (lg_sl [.ref r, .int x, .int a, .int b, .ref o] ++ List.replicate (6 - (lg_sl [.ref r, .int x, .int a, .int b, .ref o]).length) Slot.unset).toArray = ls at hl ⊢
  have hl : lv_has ls 6 [(0, .ref r), (1, .int x), (2, .int a), (3, .int b), (4, .ref o)] := hl
  have hA : ∀ q : Nat, s.heap.size ≤ q → A q := by rw [hAe]; exact fun q h => Or.inr h
  have hAo : A o := by rw [hAe]; exact Or.inl (List.mem_append_right _ (List.mem_singleton.mpr rfl))
  have hD : va_D A ([(r, oR tr ts (ad 0 0) (ad 1 0) (nI n) tick), (tr, oK KF k1 k2 k3), (k1, aI cI 12 S), (k2, aI cI 12 U), (k3, aI cI 12 V), (ts, aQ cT 6 (tq ad n))] ++ blks cI ad T (n + 2)) := sp_D (by rw [List.append_nil] at hN; exact hN) (by rw [hAe]; exact fun q h => Or.inl (List.mem_append_left _ h))
  have hS : va_S A s.heap s.heap [] := va_S.rf
  obtain ⟨H, hH0⟩ : ∃ H, H = s.heap := ⟨_, rfl⟩
  obtain ⟨locs, hlo⟩ : ∃ L : List Loc, L = [] := ⟨_, rfl⟩
  have hP : va_P D vwCl ([(r, oR tr ts (ad 0 0) (ad 1 0) (nI n) tick), (tr, oK KF k1 k2 k3), (k1, aI cI 12 S), (k2, aI cI 12 U), (k3, aI cI 12 V), (ts, aQ cT 6 (tq ad n))] ++ blks cI ad T (n + 2)) H := by rw [hH0]; exact hP
  have hO : va_P D vwCl [(o, aJ cJ f)] H := by rw [hH0]; exact hO
  have hS : va_S A s.heap H locs := by rw [hH0, hlo]; exact hS
  rw [show W p l e rmL_lay s m args below meth c s.heap [] 0 0 Q (F0 m 0 ls []) = W p l e rmL_lay s m args below meth c H locs 0 0 Q (F0 m 0 ls []) by rw [hH0, hlo]]
  clear hH0 hlo
  refine lv_aload hx hb dL_lay_0 (lv_at hl 4 rfl) ?_
  refine lv_iconst (v := 0) hx hb dL_lay_2 (by decide) ?_
  refine lv_aload_n hx hb dL_lay_3 rfl (lv_at hl 0 rfl) ?_
  refine lv_iload_n hx hb dL_lay_4 rfl (lv_at hl 1 rfl) ?_
  refine lv_iload_n hx hb dL_lay_5 rfl (lv_at hl 2 rfl) ?_
  refine lv_iload_n hx hb dL_lay_6 rfl (lv_at hl 3 rfl) ?_
  refine sp_oI (rest := [.int 0, .ref o]) (As := [.int x, .int a, .int b]) (W1 := ([(r, oR tr ts (ad 0 0) (ad 1 0) (nI n) tick), (tr, oK (cPutK S ns x KF) k1 k2 k3), (k1, aI cI 12 (cPut S ns x S x)), (k2, aI cI 12 (cPut S ns x U a)), (k3, aI cI 12 (cPut S ns x V b)), (ts, aQ cT 6 (tq ad n))] ++ blks cI ad T (n + 2))) (ci := 2) ⟨hx, hb, hml, hown, hts⟩ (mX2_lay l D cI cT hl9 H.size r tr k1 k2 k3 ts ad n hn tick KF S U V T ns hns hk x a b) (cwV 3 hts gL_lay_X2_lay rfl rfl rfl (by decide +kernel) ⟨Nat.le_of_ble_eq_true rfl, Nat.le_of_ble_eq_true rfl⟩) hK hXZ hXS hP hO ho hD hS hA (xb_fst rfl cI ad _ _ (n + 2)) rfl rfl rfl rfl hl.1 rfl (Nat.le_of_ble_eq_true rfl) dL_lay_7 ⟨Nat.le_of_ble_eq_true rfl, Nat.le_of_ble_eq_true rfl⟩ (fun z H locs hres hP hO hD hS => ?_) (fun E ce q9 H locs hres hP hO hS h1 h2 h3 => ?_)
  · skip
    refine lv_i2l (v := Int32.toInt64 z) hx hb dL_lay_10 rfl ?_
    refine sp_ost hx hb hJ hP hO (by first | exact ho | (intro h9; exact ho (by rw [← xb_fst rfl cI ad _ _ (n + 2)]; exact h9))) hD hAo hS dL_lay_11 (fun f2 H locs hf2 hP hO hS => ?_)
    refine lv_goto (tgt := 23) hx hb dL_lay_12 (by decide) ?_
    refine lv_iconst (v := 0) hx hb dL_lay_23 (by decide) ?_
    subst hQ
    refine vx_ret (W.widen (k := 1) (n := 6) (Nat.le_of_ble_eq_true rfl) (Nat.le_of_ble_eq_true rfl) ?_)
    exact W.iret hx hb hr (fun t ht hW => ⟨⟨_, f2, rfl, ⟨by rw [hres]; rfl, fun v hv => by rw [hres] at hv; rw [← Sum.inl.inj hv]; exact hf2⟩, by dsimp only; rw [ht, hres]; exact ⟨hP, hO⟩⟩, hS.F ht⟩) hS.2.2 dL_lay_24
  · skip
    have hE : E = xIAE ∨ E = xISE := by
      simp only [rLay] at hres
      repeat' split at hres
      all_goals first | cases hres; done | exact Or.inl (Sum.inr.inj hres).symm | exact Or.inr (Sum.inr.inj hres).symm
    rcases hE with rfl | rfl
    · skip
      refine vx_catch (own := RL) (name := xIAE) hown [] (⟨0, 12, 15, 13⟩ : ExceptionTableEntry) [(⟨0, 12, 19, 15⟩ : ExceptionTableEntry)] (htab.trans rfl) (fun z hz => absurd hz List.not_mem_nil) rfl (by decide) (hts (.classLink RL 13 xIAE) (by decide +kernel)) (va_Nw.use rfl hXS.2.1) h1 h2 h3 ?_
      show W p l e _ s m args below meth c H locs _ _ Q (F0 m 15 ls [.ref q9])
      refine lv_astore (lv' := [(5, .ref q9), (0, .ref r), (1, .int x), (2, .int a), (3, .int b), (4, .ref o)]) hx hb dL_lay_15 hl (by decide) rfl (fun ls hl => ?_)
      refine lv_iconst (v := 1) hx hb dL_lay_17 (by decide) ?_
      subst hQ
      refine vx_ret (W.widen (k := 1) (n := 6) (Nat.le_of_ble_eq_true rfl) (Nat.le_of_ble_eq_true rfl) ?_)
      exact W.iret hx hb hr (fun t ht hW => ⟨⟨_, f, rfl, ⟨by rw [hres]; simp [hcode, hc12, xIAE, xISE, xIOB], fun v hv => by rw [hres] at hv; cases hv⟩, by dsimp only; rw [ht, hres]; exact ⟨hP, hO⟩⟩, hS.F ht⟩) hS.2.2 dL_lay_18
    · skip
      refine vx_catch (own := RL) (name := xISE) hown [(⟨0, 12, 15, 13⟩ : ExceptionTableEntry)] (⟨0, 12, 19, 15⟩ : ExceptionTableEntry) [] (htab.trans rfl) (fun z hz => Or.inr ((fun e => by subst e; exact ⟨by decide, xIAE, (hts (.classLink RL 13 xIAE) (by decide +kernel)), hXN.1⟩) (List.mem_singleton.mp hz))) rfl (by decide) (hts (.classLink RL 15 xISE) (by decide +kernel)) (va_Nw.use rfl hXS.2.2.1) h1 h2 h3 ?_
      show W p l e _ s m args below meth c H locs _ _ Q (F0 m 19 ls [.ref q9])
      refine lv_astore (lv' := [(5, .ref q9), (0, .ref r), (1, .int x), (2, .int a), (3, .int b), (4, .ref o)]) hx hb dL_lay_19 hl (by decide) rfl (fun ls hl => ?_)
      refine lv_iconst (v := 2) hx hb dL_lay_21 (by decide) ?_
      subst hQ
      refine vx_ret (W.widen (k := 1) (n := 6) (Nat.le_of_ble_eq_true rfl) (Nat.le_of_ble_eq_true rfl) ?_)
      exact W.iret hx hb hr (fun t ht hW => ⟨⟨_, f, rfl, ⟨by rw [hres]; simp [hcode, hc12, xIAE, xISE, xIOB], fun v hv => by rw [hres] at hv; cases hv⟩, by dsimp only; rw [ht, hres]; exact ⟨hP, hO⟩⟩, hS.F ht⟩) hS.2.2 dL_lay_22

abbrev rmL_ground : Room := { frames := 7, cells := 1, slots := 6, locals := 104 }
set_option maxHeartbeats 4000000 in
set_option maxRecDepth 100000 in
/-- the law's ground -/
theorem mL_ground0 (l : Launch) (D : va_G) (cI cT cJ : ClassId) (hl9 : l.stackTraces = false) (sz o : Nat) (f : Nat → Int64) (r tr k1 k2 k3 ts : Nat) (ad : Nat → Nat → Nat) (n : Nat) (hn : n ≤ 6) (tick : Int32) (KF S U V : Nat → Int32) (T : Nat → TV) (ns : Nat) (hns : ns ≤ 12) (hk : KF 3 = nI ns) (x : Int32) : MetHm l D cI cT cJ yL_ground wsL_ground rmL_ground [.ref r, .int x, .int 0, .ref o] ([(r, oR tr ts (ad 0 0) (ad 1 0) (nI n) tick), (tr, oK KF k1 k2 k3), (k1, aI cI 12 S), (k2, aI cI 12 U), (k3, aI cI 12 V), (ts, aQ cT 6 (tq ad n))] ++ blks cI ad T (n + 2)) ([(r, oR tr ts (ad 0 0) (ad 1 0) (nI n) tick), (tr, oK KF k1 k2 k3), (k1, aI cI 12 S), (k2, aI cI 12 U), (k3, aI cI 12 V), (ts, aQ cT 6 (tq ad n))] ++ blks cI ad T (n + 2)) o f hc1 (rGround x S U ns) 1 6 sz := by
  refine Met.ofX (vx_ofWH (cc := cL_ground) (maxL := 5) (ret := (some .int)) (by decide) rfl ?_)
  intro p e s m args below meth c s₁ B hml hv
  obtain ⟨⟨⟨hargs, hsz, hP, hR0, hK, hN⟩, hXZ, hXS⟩, hO, ho, hJ, hXN⟩ := hv
  subst hsz
  have hx := B.exec
  have hb := B.bytes
  have hr := B.returns
  have hts := atoms_spec (ws := wsL_ground) B.pre
  have hown : s.vm.findClass RL = some m.cls := findClass_of_methodNamed B.named
  have hlocks := B.notSynchronized
  have htab := vx_table (x := yL_ground) B (hts (Cond.codeWith yL_ground cL_ground 5 (some .int) [(0, 10, 13, 13)]) List.mem_cons_self)
  have he : entryFrame m args 5 = F0 m 0 ((lg_sl [.ref r, .int x, .int 0, .ref o] ++ List.replicate (5 - (lg_sl [.ref r, .int x, .int 0, .ref o]).length) Slot.unset).toArray) [] := by rw [hargs]; exact lg_entry_eq m _ _
  rw [he]
  obtain ⟨A, hAe⟩ : ∃ A, A = (frA (List.map Prod.fst ([(r, oR tr ts (ad 0 0) (ad 1 0) (nI n) tick), (tr, oK KF k1 k2 k3), (k1, aI cI 12 S), (k2, aI cI 12 U), (k3, aI cI 12 V), (ts, aQ cT 6 (tq ad n))] ++ blks cI ad T (n + 2)) ++ [o]) s.heap.size) := ⟨_, rfl⟩
  change W p l e rmL_ground s m args below meth c s.heap [] 0 0 (vx_MQ below (va_Qi (S := Nat → Int64) (fun z f2 => z = hcode hc1 (rGround x S U ns) ∧ ∀ v, (rGround x S U ns) = .inl v → f2 0 = Int32.toInt64 v) (fun f2 t => va_P D vwCl (hWd (rGround x S U ns) ([(r, oR tr ts (ad 0 0) (ad 1 0) (nI n) tick), (tr, oK KF k1 k2 k3), (k1, aI cI 12 S), (k2, aI cI 12 U), (k3, aI cI 12 V), (ts, aQ cT 6 (tq ad n))] ++ blks cI ad T (n + 2)) ([(r, oR tr ts (ad 0 0) (ad 1 0) (nI n) tick), (tr, oK KF k1 k2 k3), (k1, aI cI 12 S), (k2, aI cI 12 U), (k3, aI cI 12 V), (ts, aQ cT 6 (tq ad n))] ++ blks cI ad T (n + 2))) t.heap ∧ va_P D vwCl [(o, aJ cJ f2)] t.heap) (frA (List.map Prod.fst ([(r, oR tr ts (ad 0 0) (ad 1 0) (nI n) tick), (tr, oK KF k1 k2 k3), (k1, aI cI 12 S), (k2, aI cI 12 U), (k3, aI cI 12 V), (ts, aQ cT 6 (tq ad n))] ++ blks cI ad T (n + 2)) ++ [o]) s.heap.size)) (fun _ _ _ => False) args s 1 6 (frA (List.map Prod.fst ([(r, oR tr ts (ad 0 0) (ad 1 0) (nI n) tick), (tr, oK KF k1 k2 k3), (k1, aI cI 12 S), (k2, aI cI 12 U), (k3, aI cI 12 V), (ts, aQ cT 6 (tq ad n))] ++ blks cI ad T (n + 2)) ++ [o]) s.heap.size)) _
  rw [← hAe]
  have hXZ : XZ A s s.heap := by rw [hAe]; exact hXZ
  obtain ⟨Q, hQ⟩ : ∃ Q, Q = vx_MQ below (va_Qi (S := Nat → Int64) (fun z f2 => z = hcode hc1 (rGround x S U ns) ∧ ∀ v, (rGround x S U ns) = .inl v → f2 0 = Int32.toInt64 v) (fun f2 t => va_P D vwCl (hWd (rGround x S U ns) ([(r, oR tr ts (ad 0 0) (ad 1 0) (nI n) tick), (tr, oK KF k1 k2 k3), (k1, aI cI 12 S), (k2, aI cI 12 U), (k3, aI cI 12 V), (ts, aQ cT 6 (tq ad n))] ++ blks cI ad T (n + 2)) ([(r, oR tr ts (ad 0 0) (ad 1 0) (nI n) tick), (tr, oK KF k1 k2 k3), (k1, aI cI 12 S), (k2, aI cI 12 U), (k3, aI cI 12 V), (ts, aQ cT 6 (tq ad n))] ++ blks cI ad T (n + 2))) t.heap ∧ va_P D vwCl [(o, aJ cJ f2)] t.heap) A) (fun _ _ _ => False) args s 1 6 A := ⟨_, rfl⟩
  rw [← hQ]
  have hl := lv_entry [.ref r, .int x, .int 0, .ref o] (n := 5) (Nat.le_of_ble_eq_true rfl)
  generalize (lg_sl [.ref r, .int x, .int 0, .ref o] ++ List.replicate (5 - (lg_sl [.ref r, .int x, .int 0, .ref o]).length) Slot.unset).toArray = ls at hl ⊢
  have hl : lv_has ls 5 [(0, .ref r), (1, .int x), (2, .int 0), (3, .ref o)] := hl
  have hA : ∀ q : Nat, s.heap.size ≤ q → A q := by rw [hAe]; exact fun q h => Or.inr h
  have hAo : A o := by rw [hAe]; exact Or.inl (List.mem_append_right _ (List.mem_singleton.mpr rfl))
  have hD : va_D A ([(r, oR tr ts (ad 0 0) (ad 1 0) (nI n) tick), (tr, oK KF k1 k2 k3), (k1, aI cI 12 S), (k2, aI cI 12 U), (k3, aI cI 12 V), (ts, aQ cT 6 (tq ad n))] ++ blks cI ad T (n + 2)) := sp_D (by rw [List.append_nil] at hN; exact hN) (by rw [hAe]; exact fun q h => Or.inl (List.mem_append_left _ h))
  have hS : va_S A s.heap s.heap [] := va_S.rf
  obtain ⟨H, hH0⟩ : ∃ H, H = s.heap := ⟨_, rfl⟩
  obtain ⟨locs, hlo⟩ : ∃ L : List Loc, L = [] := ⟨_, rfl⟩
  have hP : va_P D vwCl ([(r, oR tr ts (ad 0 0) (ad 1 0) (nI n) tick), (tr, oK KF k1 k2 k3), (k1, aI cI 12 S), (k2, aI cI 12 U), (k3, aI cI 12 V), (ts, aQ cT 6 (tq ad n))] ++ blks cI ad T (n + 2)) H := by rw [hH0]; exact hP
  have hO : va_P D vwCl [(o, aJ cJ f)] H := by rw [hH0]; exact hO
  have hS : va_S A s.heap H locs := by rw [hH0, hlo]; exact hS
  rw [show W p l e rmL_ground s m args below meth c s.heap [] 0 0 Q (F0 m 0 ls []) = W p l e rmL_ground s m args below meth c H locs 0 0 Q (F0 m 0 ls []) by rw [hH0, hlo]]
  clear hH0 hlo
  refine lv_aload_n hx hb dL_ground_0 rfl (lv_at hl 3 rfl) ?_
  refine lv_iconst (v := 0) hx hb dL_ground_1 (by decide) ?_
  refine lv_aload_n hx hb dL_ground_2 rfl (lv_at hl 0 rfl) ?_
  refine lv_iload_n hx hb dL_ground_3 rfl (lv_at hl 1 rfl) ?_
  refine lv_iload_n hx hb dL_ground_4 rfl (lv_at hl 2 rfl) ?_
  refine sp_oI (rest := [.int 0, .ref o]) (As := [.int x, .int 0]) (W1 := ([(r, oR tr ts (ad 0 0) (ad 1 0) (nI n) tick), (tr, oK KF k1 k2 k3), (k1, aI cI 12 S), (k2, aI cI 12 U), (k3, aI cI 12 V), (ts, aQ cT 6 (tq ad n))] ++ blks cI ad T (n + 2))) (ci := 2) ⟨hx, hb, hml, hown, hts⟩ (mX2_ground0 l D cI cT hl9 H.size r tr k1 k2 k3 ts ad n hn tick KF S U V T ns hns hk x) (cwV 2 hts gL_ground_X2_ground rfl rfl rfl (by decide +kernel) ⟨Nat.le_of_ble_eq_true rfl, Nat.le_of_ble_eq_true rfl⟩) hK hXZ hXS hP hO ho hD hS hA (xb_fst rfl cI ad _ _ (n + 2)) rfl rfl rfl rfl hl.1 rfl (Nat.le_of_ble_eq_true rfl) dL_ground_5 ⟨Nat.le_of_ble_eq_true rfl, Nat.le_of_ble_eq_true rfl⟩ (fun z H locs hres hP hO hD hS => ?_) (fun E ce q9 H locs hres hP hO hS h1 h2 h3 => ?_)
  · skip
    refine lv_i2l (v := Int32.toInt64 z) hx hb dL_ground_8 rfl ?_
    refine sp_ost hx hb hJ hP hO (by first | exact ho | (intro h9; exact ho (by rw [← xb_fst rfl cI ad _ _ (n + 2)]; exact h9))) hD hAo hS dL_ground_9 (fun f2 H locs hf2 hP hO hS => ?_)
    refine lv_goto (tgt := 17) hx hb dL_ground_10 (by decide) ?_
    refine lv_iconst (v := 0) hx hb dL_ground_17 (by decide) ?_
    subst hQ
    refine vx_ret (W.widen (k := 1) (n := 6) (Nat.le_of_ble_eq_true rfl) (Nat.le_of_ble_eq_true rfl) ?_)
    exact W.iret hx hb hr (fun t ht hW => ⟨⟨_, f2, rfl, ⟨by rw [hres]; rfl, fun v hv => by rw [hres] at hv; rw [← Sum.inl.inj hv]; exact hf2⟩, by dsimp only; rw [ht, hres]; exact ⟨hP, hO⟩⟩, hS.F ht⟩) hS.2.2 dL_ground_18
  · skip
    have hE : E = xIAE := by
      simp only [rGround] at hres
      repeat' split at hres
      all_goals first | cases hres; done | exact (Sum.inr.inj hres).symm
    subst hE
    · skip
      refine vx_catch (own := RL) (name := xIAE) hown [] (⟨0, 10, 13, 13⟩ : ExceptionTableEntry) [] (htab.trans rfl) (fun z hz => absurd hz List.not_mem_nil) rfl (by decide) (hts (.classLink RL 13 xIAE) (by decide +kernel)) (va_Nw.use rfl hXS.2.1) h1 h2 h3 ?_
      show W p l e _ s m args below meth c H locs _ _ Q (F0 m 13 ls [.ref q9])
      refine lv_astore (lv' := [(4, .ref q9), (0, .ref r), (1, .int x), (2, .int 0), (3, .ref o)]) hx hb dL_ground_13 hl (by decide) rfl (fun ls hl => ?_)
      refine lv_iconst (v := 1) hx hb dL_ground_15 (by decide) ?_
      subst hQ
      refine vx_ret (W.widen (k := 1) (n := 6) (Nat.le_of_ble_eq_true rfl) (Nat.le_of_ble_eq_true rfl) ?_)
      exact W.iret hx hb hr (fun t ht hW => ⟨⟨_, f, rfl, ⟨by rw [hres]; simp [hcode, hc1, xIAE, xISE, xIOB], fun v hv => by rw [hres] at hv; cases hv⟩, by dsimp only; rw [ht, hres]; exact ⟨hP, hO⟩⟩, hS.F ht⟩) hS.2.2 dL_ground_16

set_option maxHeartbeats 4000000 in
set_option maxRecDepth 100000 in
/-- the law's ground -/
theorem mL_ground1 (l : Launch) (D : va_G) (cI cT cJ : ClassId) (hl9 : l.stackTraces = false) (sz o : Nat) (f : Nat → Int64) (r tr k1 k2 k3 ts : Nat) (ad : Nat → Nat → Nat) (n : Nat) (hn : n ≤ 6) (tick : Int32) (KF S U V : Nat → Int32) (T : Nat → TV) (ns : Nat) (hns : ns ≤ 12) (hk : KF 3 = nI ns) (x : Int32) : MetHm l D cI cT cJ yL_ground wsL_ground rmL_ground [.ref r, .int x, .int 1, .ref o] ([(r, oR tr ts (ad 0 0) (ad 1 0) (nI n) tick), (tr, oK KF k1 k2 k3), (k1, aI cI 12 S), (k2, aI cI 12 U), (k3, aI cI 12 V), (ts, aQ cT 6 (tq ad n))] ++ blks cI ad T (n + 2)) ([(r, oR tr ts (ad 0 0) (ad 1 0) (nI n) tick), (tr, oK KF k1 k2 k3), (k1, aI cI 12 S), (k2, aI cI 12 U), (k3, aI cI 12 V), (ts, aQ cT 6 (tq ad n))] ++ blks cI ad T (n + 2)) o f hc1 (rGround x S V ns) 1 6 sz := by
  refine Met.ofX (vx_ofWH (cc := cL_ground) (maxL := 5) (ret := (some .int)) (by decide) rfl ?_)
  intro p e s m args below meth c s₁ B hml hv
  obtain ⟨⟨⟨hargs, hsz, hP, hR0, hK, hN⟩, hXZ, hXS⟩, hO, ho, hJ, hXN⟩ := hv
  subst hsz
  have hx := B.exec
  have hb := B.bytes
  have hr := B.returns
  have hts := atoms_spec (ws := wsL_ground) B.pre
  have hown : s.vm.findClass RL = some m.cls := findClass_of_methodNamed B.named
  have hlocks := B.notSynchronized
  have htab := vx_table (x := yL_ground) B (hts (Cond.codeWith yL_ground cL_ground 5 (some .int) [(0, 10, 13, 13)]) List.mem_cons_self)
  have he : entryFrame m args 5 = F0 m 0 ((lg_sl [.ref r, .int x, .int 1, .ref o] ++ List.replicate (5 - (lg_sl [.ref r, .int x, .int 1, .ref o]).length) Slot.unset).toArray) [] := by rw [hargs]; exact lg_entry_eq m _ _
  rw [he]
  obtain ⟨A, hAe⟩ : ∃ A, A = (frA (List.map Prod.fst ([(r, oR tr ts (ad 0 0) (ad 1 0) (nI n) tick), (tr, oK KF k1 k2 k3), (k1, aI cI 12 S), (k2, aI cI 12 U), (k3, aI cI 12 V), (ts, aQ cT 6 (tq ad n))] ++ blks cI ad T (n + 2)) ++ [o]) s.heap.size) := ⟨_, rfl⟩
  change W p l e rmL_ground s m args below meth c s.heap [] 0 0 (vx_MQ below (va_Qi (S := Nat → Int64) (fun z f2 => z = hcode hc1 (rGround x S V ns) ∧ ∀ v, (rGround x S V ns) = .inl v → f2 0 = Int32.toInt64 v) (fun f2 t => va_P D vwCl (hWd (rGround x S V ns) ([(r, oR tr ts (ad 0 0) (ad 1 0) (nI n) tick), (tr, oK KF k1 k2 k3), (k1, aI cI 12 S), (k2, aI cI 12 U), (k3, aI cI 12 V), (ts, aQ cT 6 (tq ad n))] ++ blks cI ad T (n + 2)) ([(r, oR tr ts (ad 0 0) (ad 1 0) (nI n) tick), (tr, oK KF k1 k2 k3), (k1, aI cI 12 S), (k2, aI cI 12 U), (k3, aI cI 12 V), (ts, aQ cT 6 (tq ad n))] ++ blks cI ad T (n + 2))) t.heap ∧ va_P D vwCl [(o, aJ cJ f2)] t.heap) (frA (List.map Prod.fst ([(r, oR tr ts (ad 0 0) (ad 1 0) (nI n) tick), (tr, oK KF k1 k2 k3), (k1, aI cI 12 S), (k2, aI cI 12 U), (k3, aI cI 12 V), (ts, aQ cT 6 (tq ad n))] ++ blks cI ad T (n + 2)) ++ [o]) s.heap.size)) (fun _ _ _ => False) args s 1 6 (frA (List.map Prod.fst ([(r, oR tr ts (ad 0 0) (ad 1 0) (nI n) tick), (tr, oK KF k1 k2 k3), (k1, aI cI 12 S), (k2, aI cI 12 U), (k3, aI cI 12 V), (ts, aQ cT 6 (tq ad n))] ++ blks cI ad T (n + 2)) ++ [o]) s.heap.size)) _
  rw [← hAe]
  have hXZ : XZ A s s.heap := by rw [hAe]; exact hXZ
  obtain ⟨Q, hQ⟩ : ∃ Q, Q = vx_MQ below (va_Qi (S := Nat → Int64) (fun z f2 => z = hcode hc1 (rGround x S V ns) ∧ ∀ v, (rGround x S V ns) = .inl v → f2 0 = Int32.toInt64 v) (fun f2 t => va_P D vwCl (hWd (rGround x S V ns) ([(r, oR tr ts (ad 0 0) (ad 1 0) (nI n) tick), (tr, oK KF k1 k2 k3), (k1, aI cI 12 S), (k2, aI cI 12 U), (k3, aI cI 12 V), (ts, aQ cT 6 (tq ad n))] ++ blks cI ad T (n + 2)) ([(r, oR tr ts (ad 0 0) (ad 1 0) (nI n) tick), (tr, oK KF k1 k2 k3), (k1, aI cI 12 S), (k2, aI cI 12 U), (k3, aI cI 12 V), (ts, aQ cT 6 (tq ad n))] ++ blks cI ad T (n + 2))) t.heap ∧ va_P D vwCl [(o, aJ cJ f2)] t.heap) A) (fun _ _ _ => False) args s 1 6 A := ⟨_, rfl⟩
  rw [← hQ]
  have hl := lv_entry [.ref r, .int x, .int 1, .ref o] (n := 5) (Nat.le_of_ble_eq_true rfl)
  generalize (lg_sl [.ref r, .int x, .int 1, .ref o] ++ List.replicate (5 - (lg_sl [.ref r, .int x, .int 1, .ref o]).length) Slot.unset).toArray = ls at hl ⊢
  have hl : lv_has ls 5 [(0, .ref r), (1, .int x), (2, .int 1), (3, .ref o)] := hl
  have hA : ∀ q : Nat, s.heap.size ≤ q → A q := by rw [hAe]; exact fun q h => Or.inr h
  have hAo : A o := by rw [hAe]; exact Or.inl (List.mem_append_right _ (List.mem_singleton.mpr rfl))
  have hD : va_D A ([(r, oR tr ts (ad 0 0) (ad 1 0) (nI n) tick), (tr, oK KF k1 k2 k3), (k1, aI cI 12 S), (k2, aI cI 12 U), (k3, aI cI 12 V), (ts, aQ cT 6 (tq ad n))] ++ blks cI ad T (n + 2)) := sp_D (by rw [List.append_nil] at hN; exact hN) (by rw [hAe]; exact fun q h => Or.inl (List.mem_append_left _ h))
  have hS : va_S A s.heap s.heap [] := va_S.rf
  obtain ⟨H, hH0⟩ : ∃ H, H = s.heap := ⟨_, rfl⟩
  obtain ⟨locs, hlo⟩ : ∃ L : List Loc, L = [] := ⟨_, rfl⟩
  have hP : va_P D vwCl ([(r, oR tr ts (ad 0 0) (ad 1 0) (nI n) tick), (tr, oK KF k1 k2 k3), (k1, aI cI 12 S), (k2, aI cI 12 U), (k3, aI cI 12 V), (ts, aQ cT 6 (tq ad n))] ++ blks cI ad T (n + 2)) H := by rw [hH0]; exact hP
  have hO : va_P D vwCl [(o, aJ cJ f)] H := by rw [hH0]; exact hO
  have hS : va_S A s.heap H locs := by rw [hH0, hlo]; exact hS
  rw [show W p l e rmL_ground s m args below meth c s.heap [] 0 0 Q (F0 m 0 ls []) = W p l e rmL_ground s m args below meth c H locs 0 0 Q (F0 m 0 ls []) by rw [hH0, hlo]]
  clear hH0 hlo
  refine lv_aload_n hx hb dL_ground_0 rfl (lv_at hl 3 rfl) ?_
  refine lv_iconst (v := 0) hx hb dL_ground_1 (by decide) ?_
  refine lv_aload_n hx hb dL_ground_2 rfl (lv_at hl 0 rfl) ?_
  refine lv_iload_n hx hb dL_ground_3 rfl (lv_at hl 1 rfl) ?_
  refine lv_iload_n hx hb dL_ground_4 rfl (lv_at hl 2 rfl) ?_
  refine sp_oI (rest := [.int 0, .ref o]) (As := [.int x, .int 1]) (W1 := ([(r, oR tr ts (ad 0 0) (ad 1 0) (nI n) tick), (tr, oK KF k1 k2 k3), (k1, aI cI 12 S), (k2, aI cI 12 U), (k3, aI cI 12 V), (ts, aQ cT 6 (tq ad n))] ++ blks cI ad T (n + 2))) (ci := 2) ⟨hx, hb, hml, hown, hts⟩ (mX2_ground1 l D cI cT hl9 H.size r tr k1 k2 k3 ts ad n hn tick KF S U V T ns hns hk x) (cwV 2 hts gL_ground_X2_ground rfl rfl rfl (by decide +kernel) ⟨Nat.le_of_ble_eq_true rfl, Nat.le_of_ble_eq_true rfl⟩) hK hXZ hXS hP hO ho hD hS hA (xb_fst rfl cI ad _ _ (n + 2)) rfl rfl rfl rfl hl.1 rfl (Nat.le_of_ble_eq_true rfl) dL_ground_5 ⟨Nat.le_of_ble_eq_true rfl, Nat.le_of_ble_eq_true rfl⟩ (fun z H locs hres hP hO hD hS => ?_) (fun E ce q9 H locs hres hP hO hS h1 h2 h3 => ?_)
  · skip
    refine lv_i2l (v := Int32.toInt64 z) hx hb dL_ground_8 rfl ?_
    refine sp_ost hx hb hJ hP hO (by first | exact ho | (intro h9; exact ho (by rw [← xb_fst rfl cI ad _ _ (n + 2)]; exact h9))) hD hAo hS dL_ground_9 (fun f2 H locs hf2 hP hO hS => ?_)
    refine lv_goto (tgt := 17) hx hb dL_ground_10 (by decide) ?_
    refine lv_iconst (v := 0) hx hb dL_ground_17 (by decide) ?_
    subst hQ
    refine vx_ret (W.widen (k := 1) (n := 6) (Nat.le_of_ble_eq_true rfl) (Nat.le_of_ble_eq_true rfl) ?_)
    exact W.iret hx hb hr (fun t ht hW => ⟨⟨_, f2, rfl, ⟨by rw [hres]; rfl, fun v hv => by rw [hres] at hv; rw [← Sum.inl.inj hv]; exact hf2⟩, by dsimp only; rw [ht, hres]; exact ⟨hP, hO⟩⟩, hS.F ht⟩) hS.2.2 dL_ground_18
  · skip
    have hE : E = xIAE := by
      simp only [rGround] at hres
      repeat' split at hres
      all_goals first | cases hres; done | exact (Sum.inr.inj hres).symm
    subst hE
    · skip
      refine vx_catch (own := RL) (name := xIAE) hown [] (⟨0, 10, 13, 13⟩ : ExceptionTableEntry) [] (htab.trans rfl) (fun z hz => absurd hz List.not_mem_nil) rfl (by decide) (hts (.classLink RL 13 xIAE) (by decide +kernel)) (va_Nw.use rfl hXS.2.1) h1 h2 h3 ?_
      show W p l e _ s m args below meth c H locs _ _ Q (F0 m 13 ls [.ref q9])
      refine lv_astore (lv' := [(4, .ref q9), (0, .ref r), (1, .int x), (2, .int 1), (3, .ref o)]) hx hb dL_ground_13 hl (by decide) rfl (fun ls hl => ?_)
      refine lv_iconst (v := 1) hx hb dL_ground_15 (by decide) ?_
      subst hQ
      refine vx_ret (W.widen (k := 1) (n := 6) (Nat.le_of_ble_eq_true rfl) (Nat.le_of_ble_eq_true rfl) ?_)
      exact W.iret hx hb hr (fun t ht hW => ⟨⟨_, f, rfl, ⟨by rw [hres]; simp [hcode, hc1, xIAE, xISE, xIOB], fun v hv => by rw [hres] at hv; cases hv⟩, by dsimp only; rw [ht, hres]; exact ⟨hP, hO⟩⟩, hS.F ht⟩) hS.2.2 dL_ground_16

abbrev rmL_setCrew : Room := { frames := 8, cells := 2, slots := 12, locals := 131 }
set_option maxHeartbeats 4000000 in
set_option maxRecDepth 100000 in
/-- the law's setCrew -/
theorem mL_setCrew (l : Launch) (D : va_G) (cI cT cJ : ClassId) (hl9 : l.stackTraces = false) (sz o : Nat) (f : Nat → Int64) (r tr k1 k2 k3 ts : Nat) (ad : Nat → Nat → Nat) (n : Nat) (hn : n ≤ 6) (tick : Int32) (KF S U V : Nat → Int32) (T : Nat → TV) (x a b d r9 : Int32) : MetHm l D cI cT cJ yL_setCrew wsL_setCrew rmL_setCrew [.ref r, .int x, .int a, .int b, .int d, .int r9, .ref o] ([(r, oR tr ts (ad 0 0) (ad 1 0) (nI n) tick), (tr, oK KF k1 k2 k3), (k1, aI cI 12 S), (k2, aI cI 12 U), (k3, aI cI 12 V), (ts, aQ cT 6 (tq ad n))] ++ blks cI ad T (n + 2)) ([(r, oR tr ts (ad 0 0) (ad 1 0) (nI n) tick), (tr, oK KF k1 k2 k3), (k1, aI cI 12 S), (k2, aI cI 12 U), (k3, aI cI 12 V), (ts, aQ cT 6 (tq ad n))] ++ blks cI ad (setT T (x.toNatClampNeg + 2) (upd (upd (upd (upd (upd (T (x.toNatClampNeg + 2)).1 4 a) 5 b) 6 d) 7 r9) 12 r9, (T (x.toNatClampNeg + 2)).2)) (n + 2)) o f hc123 (rCrew x a b d r9 n tick T) 2 12 sz := by
  refine Met.ofX (vx_ofWH (cc := cL_setCrew) (maxL := 8) (ret := (some .int)) (by decide) rfl ?_)
  intro p e s m args below meth c s₁ B hml hv
  obtain ⟨⟨⟨hargs, hsz, hP, hR0, hK, hN⟩, hXZ, hXS⟩, hO, ho, hJ, hXN⟩ := hv
  subst hsz
  have hx := B.exec
  have hb := B.bytes
  have hr := B.returns
  have hts := atoms_spec (ws := wsL_setCrew) B.pre
  have hown : s.vm.findClass RL = some m.cls := findClass_of_methodNamed B.named
  have hlocks := B.notSynchronized
  have htab := vx_table (x := yL_setCrew) B (hts (Cond.codeWith yL_setCrew cL_setCrew 8 (some .int) [(0, 16, 19, 32), (0, 16, 23, 13), (0, 16, 27, 15)]) List.mem_cons_self)
  have he : entryFrame m args 8 = F0 m 0 ((lg_sl [.ref r, .int x, .int a, .int b, .int d, .int r9, .ref o] ++ List.replicate (8 - (lg_sl [.ref r, .int x, .int a, .int b, .int d, .int r9, .ref o]).length) Slot.unset).toArray) [] := by rw [hargs]; exact lg_entry_eq m _ _
  rw [he]
  obtain ⟨A, hAe⟩ : ∃ A, A = (frA (List.map Prod.fst ([(r, oR tr ts (ad 0 0) (ad 1 0) (nI n) tick), (tr, oK KF k1 k2 k3), (k1, aI cI 12 S), (k2, aI cI 12 U), (k3, aI cI 12 V), (ts, aQ cT 6 (tq ad n))] ++ blks cI ad T (n + 2)) ++ [o]) s.heap.size) := ⟨_, rfl⟩
  change W p l e rmL_setCrew s m args below meth c s.heap [] 0 0 (vx_MQ below (va_Qi (S := Nat → Int64) (fun z f2 => z = hcode hc123 (rCrew x a b d r9 n tick T) ∧ ∀ v, (rCrew x a b d r9 n tick T) = .inl v → f2 0 = Int32.toInt64 v) (fun f2 t => va_P D vwCl (hWd (rCrew x a b d r9 n tick T) ([(r, oR tr ts (ad 0 0) (ad 1 0) (nI n) tick), (tr, oK KF k1 k2 k3), (k1, aI cI 12 S), (k2, aI cI 12 U), (k3, aI cI 12 V), (ts, aQ cT 6 (tq ad n))] ++ blks cI ad T (n + 2)) ([(r, oR tr ts (ad 0 0) (ad 1 0) (nI n) tick), (tr, oK KF k1 k2 k3), (k1, aI cI 12 S), (k2, aI cI 12 U), (k3, aI cI 12 V), (ts, aQ cT 6 (tq ad n))] ++ blks cI ad (setT T (x.toNatClampNeg + 2) (upd (upd (upd (upd (upd (T (x.toNatClampNeg + 2)).1 4 a) 5 b) 6 d) 7 r9) 12 r9, (T (x.toNatClampNeg + 2)).2)) (n + 2))) t.heap ∧ va_P D vwCl [(o, aJ cJ f2)] t.heap) (frA (List.map Prod.fst ([(r, oR tr ts (ad 0 0) (ad 1 0) (nI n) tick), (tr, oK KF k1 k2 k3), (k1, aI cI 12 S), (k2, aI cI 12 U), (k3, aI cI 12 V), (ts, aQ cT 6 (tq ad n))] ++ blks cI ad T (n + 2)) ++ [o]) s.heap.size)) (fun _ _ _ => False) args s 2 12 (frA (List.map Prod.fst ([(r, oR tr ts (ad 0 0) (ad 1 0) (nI n) tick), (tr, oK KF k1 k2 k3), (k1, aI cI 12 S), (k2, aI cI 12 U), (k3, aI cI 12 V), (ts, aQ cT 6 (tq ad n))] ++ blks cI ad T (n + 2)) ++ [o]) s.heap.size)) _
  rw [← hAe]
  have hXZ : XZ A s s.heap := by rw [hAe]; exact hXZ
  obtain ⟨Q, hQ⟩ : ∃ Q, Q = vx_MQ below (va_Qi (S := Nat → Int64) (fun z f2 => z = hcode hc123 (rCrew x a b d r9 n tick T) ∧ ∀ v, (rCrew x a b d r9 n tick T) = .inl v → f2 0 = Int32.toInt64 v) (fun f2 t => va_P D vwCl (hWd (rCrew x a b d r9 n tick T) ([(r, oR tr ts (ad 0 0) (ad 1 0) (nI n) tick), (tr, oK KF k1 k2 k3), (k1, aI cI 12 S), (k2, aI cI 12 U), (k3, aI cI 12 V), (ts, aQ cT 6 (tq ad n))] ++ blks cI ad T (n + 2)) ([(r, oR tr ts (ad 0 0) (ad 1 0) (nI n) tick), (tr, oK KF k1 k2 k3), (k1, aI cI 12 S), (k2, aI cI 12 U), (k3, aI cI 12 V), (ts, aQ cT 6 (tq ad n))] ++ blks cI ad (setT T (x.toNatClampNeg + 2) (upd (upd (upd (upd (upd (T (x.toNatClampNeg + 2)).1 4 a) 5 b) 6 d) 7 r9) 12 r9, (T (x.toNatClampNeg + 2)).2)) (n + 2))) t.heap ∧ va_P D vwCl [(o, aJ cJ f2)] t.heap) A) (fun _ _ _ => False) args s 2 12 A := ⟨_, rfl⟩
  rw [← hQ]
  have hl := lv_entry [.ref r, .int x, .int a, .int b, .int d, .int r9, .ref o] (n := 8) (Nat.le_of_ble_eq_true rfl)
  generalize (lg_sl [.ref r, .int x, .int a, .int b, .int d, .int r9, .ref o] ++ List.replicate (8 - (lg_sl [.ref r, .int x, .int a, .int b, .int d, .int r9, .ref o]).length) Slot.unset).toArray = ls at hl ⊢
  have hl : lv_has ls 8 [(0, .ref r), (1, .int x), (2, .int a), (3, .int b), (4, .int d), (5, .int r9), (6, .ref o)] := hl
  have hA : ∀ q : Nat, s.heap.size ≤ q → A q := by rw [hAe]; exact fun q h => Or.inr h
  have hAo : A o := by rw [hAe]; exact Or.inl (List.mem_append_right _ (List.mem_singleton.mpr rfl))
  have hD : va_D A ([(r, oR tr ts (ad 0 0) (ad 1 0) (nI n) tick), (tr, oK KF k1 k2 k3), (k1, aI cI 12 S), (k2, aI cI 12 U), (k3, aI cI 12 V), (ts, aQ cT 6 (tq ad n))] ++ blks cI ad T (n + 2)) := sp_D (by rw [List.append_nil] at hN; exact hN) (by rw [hAe]; exact fun q h => Or.inl (List.mem_append_left _ h))
  have hS : va_S A s.heap s.heap [] := va_S.rf
  obtain ⟨H, hH0⟩ : ∃ H, H = s.heap := ⟨_, rfl⟩
  obtain ⟨locs, hlo⟩ : ∃ L : List Loc, L = [] := ⟨_, rfl⟩
  have hP : va_P D vwCl ([(r, oR tr ts (ad 0 0) (ad 1 0) (nI n) tick), (tr, oK KF k1 k2 k3), (k1, aI cI 12 S), (k2, aI cI 12 U), (k3, aI cI 12 V), (ts, aQ cT 6 (tq ad n))] ++ blks cI ad T (n + 2)) H := by rw [hH0]; exact hP
  have hO : va_P D vwCl [(o, aJ cJ f)] H := by rw [hH0]; exact hO
  have hS : va_S A s.heap H locs := by rw [hH0, hlo]; exact hS
  rw [show W p l e rmL_setCrew s m args below meth c s.heap [] 0 0 Q (F0 m 0 ls []) = W p l e rmL_setCrew s m args below meth c H locs 0 0 Q (F0 m 0 ls []) by rw [hH0, hlo]]
  clear hH0 hlo
  refine lv_aload hx hb dL_setCrew_0 (lv_at hl 6 rfl) ?_
  refine lv_iconst (v := 0) hx hb dL_setCrew_2 (by decide) ?_
  refine lv_aload_n hx hb dL_setCrew_3 rfl (lv_at hl 0 rfl) ?_
  refine lv_iload_n hx hb dL_setCrew_4 rfl (lv_at hl 1 rfl) ?_
  refine lv_iload_n hx hb dL_setCrew_5 rfl (lv_at hl 2 rfl) ?_
  refine lv_iload_n hx hb dL_setCrew_6 rfl (lv_at hl 3 rfl) ?_
  refine lv_iload hx hb dL_setCrew_7 (lv_at hl 4 rfl) ?_
  refine lv_iload hx hb dL_setCrew_9 (lv_at hl 5 rfl) ?_
  refine sp_oI (rest := [.int 0, .ref o]) (As := [.int x, .int a, .int b, .int d, .int r9]) (W1 := ([(r, oR tr ts (ad 0 0) (ad 1 0) (nI n) tick), (tr, oK KF k1 k2 k3), (k1, aI cI 12 S), (k2, aI cI 12 U), (k3, aI cI 12 V), (ts, aQ cT 6 (tq ad n))] ++ blks cI ad (setT T (x.toNatClampNeg + 2) (upd (upd (upd (upd (upd (T (x.toNatClampNeg + 2)).1 4 a) 5 b) 6 d) 7 r9) 12 r9, (T (x.toNatClampNeg + 2)).2)) (n + 2))) (ci := 2) ⟨hx, hb, hml, hown, hts⟩ (mX2_setCrew l D cI cT hl9 H.size r tr k1 k2 k3 ts ad n hn tick KF S U V T x a b d r9) (cwV 5 hts gL_setCrew_X2_setCrew rfl rfl rfl (by decide +kernel) ⟨Nat.le_of_ble_eq_true rfl, Nat.le_of_ble_eq_true rfl⟩) hK hXZ hXS hP hO ho hD hS hA (xb_fst rfl cI ad _ _ (n + 2)) rfl rfl rfl rfl hl.1 rfl (Nat.le_of_ble_eq_true rfl) dL_setCrew_11 ⟨Nat.le_of_ble_eq_true rfl, Nat.le_of_ble_eq_true rfl⟩ (fun z H locs hres hP hO hD hS => ?_) (fun E ce q9 H locs hres hP hO hS h1 h2 h3 => ?_)
  · skip
    refine lv_i2l (v := Int32.toInt64 z) hx hb dL_setCrew_14 rfl ?_
    refine sp_ost hx hb hJ hP hO (by first | exact ho | (intro h9; exact ho (by rw [← xb_fst rfl cI ad _ _ (n + 2)]; exact h9))) hD hAo hS dL_setCrew_15 (fun f2 H locs hf2 hP hO hS => ?_)
    refine lv_goto (tgt := 31) hx hb dL_setCrew_16 (by decide) ?_
    refine lv_iconst (v := 0) hx hb dL_setCrew_31 (by decide) ?_
    subst hQ
    refine vx_ret (W.widen (k := 2) (n := 12) (Nat.le_of_ble_eq_true rfl) (Nat.le_of_ble_eq_true rfl) ?_)
    exact W.iret hx hb hr (fun t ht hW => ⟨⟨_, f2, rfl, ⟨by rw [hres]; rfl, fun v hv => by rw [hres] at hv; rw [← Sum.inl.inj hv]; exact hf2⟩, by dsimp only; rw [ht, hres]; exact ⟨hP, hO⟩⟩, hS.F ht⟩) hS.2.2 dL_setCrew_32
  · skip
    have hE : E = xIOB ∨ E = xIAE ∨ E = xISE := by
      simp only [rCrew] at hres
      repeat' split at hres
      all_goals first | cases hres; done | exact Or.inl (Sum.inr.inj hres).symm | exact Or.inr (Or.inl (Sum.inr.inj hres).symm) | exact Or.inr (Or.inr (Sum.inr.inj hres).symm)
    rcases hE with rfl | rfl | rfl
    · skip
      refine vx_catch (own := RL) (name := xIOB) hown [] (⟨0, 16, 19, 32⟩ : ExceptionTableEntry) [(⟨0, 16, 23, 13⟩ : ExceptionTableEntry), (⟨0, 16, 27, 15⟩ : ExceptionTableEntry)] (htab.trans rfl) (fun z hz => absurd hz List.not_mem_nil) rfl (by decide) (hts (.classLink RL 32 xIOB) (by decide +kernel)) (va_Nw.use rfl hXS.2.2.2.1) h1 h2 h3 ?_
      show W p l e _ s m args below meth c H locs _ _ Q (F0 m 19 ls [.ref q9])
      refine lv_astore (lv' := [(7, .ref q9), (0, .ref r), (1, .int x), (2, .int a), (3, .int b), (4, .int d), (5, .int r9), (6, .ref o)]) hx hb dL_setCrew_19 hl (by decide) rfl (fun ls hl => ?_)
      refine lv_iconst (v := 1) hx hb dL_setCrew_21 (by decide) ?_
      subst hQ
      refine vx_ret (W.widen (k := 2) (n := 12) (Nat.le_of_ble_eq_true rfl) (Nat.le_of_ble_eq_true rfl) ?_)
      exact W.iret hx hb hr (fun t ht hW => ⟨⟨_, f, rfl, ⟨by rw [hres]; simp [hcode, hc123, xIAE, xISE, xIOB], fun v hv => by rw [hres] at hv; cases hv⟩, by dsimp only; rw [ht, hres]; exact ⟨hP, hO⟩⟩, hS.F ht⟩) hS.2.2 dL_setCrew_22
    · skip
      refine vx_catch (own := RL) (name := xIAE) hown [(⟨0, 16, 19, 32⟩ : ExceptionTableEntry)] (⟨0, 16, 23, 13⟩ : ExceptionTableEntry) [(⟨0, 16, 27, 15⟩ : ExceptionTableEntry)] (htab.trans rfl) (fun z hz => Or.inr ((fun e => by subst e; exact ⟨by decide, xIOB, (hts (.classLink RL 32 xIOB) (by decide +kernel)), hXN.2.1⟩) (List.mem_singleton.mp hz))) rfl (by decide) (hts (.classLink RL 13 xIAE) (by decide +kernel)) (va_Nw.use rfl hXS.2.1) h1 h2 h3 ?_
      show W p l e _ s m args below meth c H locs _ _ Q (F0 m 23 ls [.ref q9])
      refine lv_astore (lv' := [(7, .ref q9), (0, .ref r), (1, .int x), (2, .int a), (3, .int b), (4, .int d), (5, .int r9), (6, .ref o)]) hx hb dL_setCrew_23 hl (by decide) rfl (fun ls hl => ?_)
      refine lv_iconst (v := 2) hx hb dL_setCrew_25 (by decide) ?_
      subst hQ
      refine vx_ret (W.widen (k := 2) (n := 12) (Nat.le_of_ble_eq_true rfl) (Nat.le_of_ble_eq_true rfl) ?_)
      exact W.iret hx hb hr (fun t ht hW => ⟨⟨_, f, rfl, ⟨by rw [hres]; simp [hcode, hc123, xIAE, xISE, xIOB], fun v hv => by rw [hres] at hv; cases hv⟩, by dsimp only; rw [ht, hres]; exact ⟨hP, hO⟩⟩, hS.F ht⟩) hS.2.2 dL_setCrew_26
    · skip
      refine vx_catch (own := RL) (name := xISE) hown [(⟨0, 16, 19, 32⟩ : ExceptionTableEntry), (⟨0, 16, 23, 13⟩ : ExceptionTableEntry)] (⟨0, 16, 27, 15⟩ : ExceptionTableEntry) [] (htab.trans rfl) (fun z hz => Or.inr ((List.mem_cons.mp hz).elim (fun e => by subst e; exact ⟨by decide, xIOB, (hts (.classLink RL 32 xIOB) (by decide +kernel)), hXN.2.2⟩) (fun hz => (fun e => by subst e; exact ⟨by decide, xIAE, (hts (.classLink RL 13 xIAE) (by decide +kernel)), hXN.1⟩) (List.mem_singleton.mp hz)))) rfl (by decide) (hts (.classLink RL 15 xISE) (by decide +kernel)) (va_Nw.use rfl hXS.2.2.1) h1 h2 h3 ?_
      show W p l e _ s m args below meth c H locs _ _ Q (F0 m 27 ls [.ref q9])
      refine lv_astore (lv' := [(7, .ref q9), (0, .ref r), (1, .int x), (2, .int a), (3, .int b), (4, .int d), (5, .int r9), (6, .ref o)]) hx hb dL_setCrew_27 hl (by decide) rfl (fun ls hl => ?_)
      refine lv_iconst (v := 3) hx hb dL_setCrew_29 (by decide) ?_
      subst hQ
      refine vx_ret (W.widen (k := 2) (n := 12) (Nat.le_of_ble_eq_true rfl) (Nat.le_of_ble_eq_true rfl) ?_)
      exact W.iret hx hb hr (fun t ht hW => ⟨⟨_, f, rfl, ⟨by rw [hres]; simp [hcode, hc123, xIAE, xISE, xIOB], fun v hv => by rw [hres] at hv; cases hv⟩, by dsimp only; rw [ht, hres]; exact ⟨hP, hO⟩⟩, hS.F ht⟩) hS.2.2 dL_setCrew_30

abbrev rmL_order : Room := { frames := 8, cells := 2, slots := 12, locals := 129 }
set_option maxHeartbeats 4000000 in
set_option maxRecDepth 100000 in
/-- the law's order -/
theorem mL_order (l : Launch) (D : va_G) (cI cT cJ : ClassId) (hl9 : l.stackTraces = false) (sz o : Nat) (f : Nat → Int64) (r tr k1 k2 k3 ts : Nat) (ad : Nat → Nat → Nat) (n : Nat) (hn : n ≤ 6) (tick : Int32) (KF S U V : Nat → Int32) (T : Nat → TV) (x a b : Int32) : MetHm l D cI cT cJ yL_order wsL_order rmL_order [.ref r, .int x, .int a, .int b, .ref o] ([(r, oR tr ts (ad 0 0) (ad 1 0) (nI n) tick), (tr, oK KF k1 k2 k3), (k1, aI cI 12 S), (k2, aI cI 12 U), (k3, aI cI 12 V), (ts, aQ cT 6 (tq ad n))] ++ blks cI ad T (n + 2)) ([(r, oR tr ts (ad 0 0) (ad 1 0) (nI n) tick), (tr, oK KF k1 k2 k3), (k1, aI cI 12 S), (k2, aI cI 12 U), (k3, aI cI 12 V), (ts, aQ cT 6 (tq ad n))] ++ blks cI ad (setT T (x.toNatClampNeg + 2) (upd (upd (T (x.toNatClampNeg + 2)).1 8 a) 9 b, (T (x.toNatClampNeg + 2)).2)) (n + 2)) o f hcOA (rOrder x a b n T) 2 12 sz := by
  refine Met.ofX (vx_ofWH (cc := cL_order) (maxL := 6) (ret := (some .int)) (by decide) rfl ?_)
  intro p e s m args below meth c s₁ B hml hv
  obtain ⟨⟨⟨hargs, hsz, hP, hR0, hK, hN⟩, hXZ, hXS⟩, hO, ho, hJ, hXN⟩ := hv
  subst hsz
  have hx := B.exec
  have hb := B.bytes
  have hr := B.returns
  have hts := atoms_spec (ws := wsL_order) B.pre
  have hown : s.vm.findClass RL = some m.cls := findClass_of_methodNamed B.named
  have hlocks := B.notSynchronized
  have htab := vx_table (x := yL_order) B (hts (Cond.codeWith yL_order cL_order 6 (some .int) [(0, 12, 15, 32), (0, 12, 19, 13)]) List.mem_cons_self)
  have he : entryFrame m args 6 = F0 m 0 ((lg_sl [.ref r, .int x, .int a, .int b, .ref o] ++ List.replicate (6 - (lg_sl [.ref r, .int x, .int a, .int b, .ref o]).length) Slot.unset).toArray) [] := by rw [hargs]; exact lg_entry_eq m _ _
  rw [he]
  obtain ⟨A, hAe⟩ : ∃ A, A = (frA (List.map Prod.fst ([(r, oR tr ts (ad 0 0) (ad 1 0) (nI n) tick), (tr, oK KF k1 k2 k3), (k1, aI cI 12 S), (k2, aI cI 12 U), (k3, aI cI 12 V), (ts, aQ cT 6 (tq ad n))] ++ blks cI ad T (n + 2)) ++ [o]) s.heap.size) := ⟨_, rfl⟩
  change W p l e rmL_order s m args below meth c s.heap [] 0 0 (vx_MQ below (va_Qi (S := Nat → Int64) (fun z f2 => z = hcode hcOA (rOrder x a b n T) ∧ ∀ v, (rOrder x a b n T) = .inl v → f2 0 = Int32.toInt64 v) (fun f2 t => va_P D vwCl (hWd (rOrder x a b n T) ([(r, oR tr ts (ad 0 0) (ad 1 0) (nI n) tick), (tr, oK KF k1 k2 k3), (k1, aI cI 12 S), (k2, aI cI 12 U), (k3, aI cI 12 V), (ts, aQ cT 6 (tq ad n))] ++ blks cI ad T (n + 2)) ([(r, oR tr ts (ad 0 0) (ad 1 0) (nI n) tick), (tr, oK KF k1 k2 k3), (k1, aI cI 12 S), (k2, aI cI 12 U), (k3, aI cI 12 V), (ts, aQ cT 6 (tq ad n))] ++ blks cI ad (setT T (x.toNatClampNeg + 2) (upd (upd (T (x.toNatClampNeg + 2)).1 8 a) 9 b, (T (x.toNatClampNeg + 2)).2)) (n + 2))) t.heap ∧ va_P D vwCl [(o, aJ cJ f2)] t.heap) (frA (List.map Prod.fst ([(r, oR tr ts (ad 0 0) (ad 1 0) (nI n) tick), (tr, oK KF k1 k2 k3), (k1, aI cI 12 S), (k2, aI cI 12 U), (k3, aI cI 12 V), (ts, aQ cT 6 (tq ad n))] ++ blks cI ad T (n + 2)) ++ [o]) s.heap.size)) (fun _ _ _ => False) args s 2 12 (frA (List.map Prod.fst ([(r, oR tr ts (ad 0 0) (ad 1 0) (nI n) tick), (tr, oK KF k1 k2 k3), (k1, aI cI 12 S), (k2, aI cI 12 U), (k3, aI cI 12 V), (ts, aQ cT 6 (tq ad n))] ++ blks cI ad T (n + 2)) ++ [o]) s.heap.size)) _
  rw [← hAe]
  have hXZ : XZ A s s.heap := by rw [hAe]; exact hXZ
  obtain ⟨Q, hQ⟩ : ∃ Q, Q = vx_MQ below (va_Qi (S := Nat → Int64) (fun z f2 => z = hcode hcOA (rOrder x a b n T) ∧ ∀ v, (rOrder x a b n T) = .inl v → f2 0 = Int32.toInt64 v) (fun f2 t => va_P D vwCl (hWd (rOrder x a b n T) ([(r, oR tr ts (ad 0 0) (ad 1 0) (nI n) tick), (tr, oK KF k1 k2 k3), (k1, aI cI 12 S), (k2, aI cI 12 U), (k3, aI cI 12 V), (ts, aQ cT 6 (tq ad n))] ++ blks cI ad T (n + 2)) ([(r, oR tr ts (ad 0 0) (ad 1 0) (nI n) tick), (tr, oK KF k1 k2 k3), (k1, aI cI 12 S), (k2, aI cI 12 U), (k3, aI cI 12 V), (ts, aQ cT 6 (tq ad n))] ++ blks cI ad (setT T (x.toNatClampNeg + 2) (upd (upd (T (x.toNatClampNeg + 2)).1 8 a) 9 b, (T (x.toNatClampNeg + 2)).2)) (n + 2))) t.heap ∧ va_P D vwCl [(o, aJ cJ f2)] t.heap) A) (fun _ _ _ => False) args s 2 12 A := ⟨_, rfl⟩
  rw [← hQ]
  have hl := lv_entry [.ref r, .int x, .int a, .int b, .ref o] (n := 6) (Nat.le_of_ble_eq_true rfl)
  generalize (lg_sl [.ref r, .int x, .int a, .int b, .ref o] ++ List.replicate (6 - (lg_sl [.ref r, .int x, .int a, .int b, .ref o]).length) Slot.unset).toArray = ls at hl ⊢
  have hl : lv_has ls 6 [(0, .ref r), (1, .int x), (2, .int a), (3, .int b), (4, .ref o)] := hl
  have hA : ∀ q : Nat, s.heap.size ≤ q → A q := by rw [hAe]; exact fun q h => Or.inr h
  have hAo : A o := by rw [hAe]; exact Or.inl (List.mem_append_right _ (List.mem_singleton.mpr rfl))
  have hD : va_D A ([(r, oR tr ts (ad 0 0) (ad 1 0) (nI n) tick), (tr, oK KF k1 k2 k3), (k1, aI cI 12 S), (k2, aI cI 12 U), (k3, aI cI 12 V), (ts, aQ cT 6 (tq ad n))] ++ blks cI ad T (n + 2)) := sp_D (by rw [List.append_nil] at hN; exact hN) (by rw [hAe]; exact fun q h => Or.inl (List.mem_append_left _ h))
  have hS : va_S A s.heap s.heap [] := va_S.rf
  obtain ⟨H, hH0⟩ : ∃ H, H = s.heap := ⟨_, rfl⟩
  obtain ⟨locs, hlo⟩ : ∃ L : List Loc, L = [] := ⟨_, rfl⟩
  have hP : va_P D vwCl ([(r, oR tr ts (ad 0 0) (ad 1 0) (nI n) tick), (tr, oK KF k1 k2 k3), (k1, aI cI 12 S), (k2, aI cI 12 U), (k3, aI cI 12 V), (ts, aQ cT 6 (tq ad n))] ++ blks cI ad T (n + 2)) H := by rw [hH0]; exact hP
  have hO : va_P D vwCl [(o, aJ cJ f)] H := by rw [hH0]; exact hO
  have hS : va_S A s.heap H locs := by rw [hH0, hlo]; exact hS
  rw [show W p l e rmL_order s m args below meth c s.heap [] 0 0 Q (F0 m 0 ls []) = W p l e rmL_order s m args below meth c H locs 0 0 Q (F0 m 0 ls []) by rw [hH0, hlo]]
  clear hH0 hlo
  refine lv_aload hx hb dL_order_0 (lv_at hl 4 rfl) ?_
  refine lv_iconst (v := 0) hx hb dL_order_2 (by decide) ?_
  refine lv_aload_n hx hb dL_order_3 rfl (lv_at hl 0 rfl) ?_
  refine lv_iload_n hx hb dL_order_4 rfl (lv_at hl 1 rfl) ?_
  refine lv_iload_n hx hb dL_order_5 rfl (lv_at hl 2 rfl) ?_
  refine lv_iload_n hx hb dL_order_6 rfl (lv_at hl 3 rfl) ?_
  refine sp_oI (rest := [.int 0, .ref o]) (As := [.int x, .int a, .int b]) (W1 := ([(r, oR tr ts (ad 0 0) (ad 1 0) (nI n) tick), (tr, oK KF k1 k2 k3), (k1, aI cI 12 S), (k2, aI cI 12 U), (k3, aI cI 12 V), (ts, aQ cT 6 (tq ad n))] ++ blks cI ad (setT T (x.toNatClampNeg + 2) (upd (upd (T (x.toNatClampNeg + 2)).1 8 a) 9 b, (T (x.toNatClampNeg + 2)).2)) (n + 2))) (ci := 2) ⟨hx, hb, hml, hown, hts⟩ (mX2_order l D cI cT hl9 H.size r tr k1 k2 k3 ts ad n hn tick KF S U V T x a b) (cwV 3 hts gL_order_X2_order rfl rfl rfl (by decide +kernel) ⟨Nat.le_of_ble_eq_true rfl, Nat.le_of_ble_eq_true rfl⟩) hK hXZ hXS hP hO ho hD hS hA (xb_fst rfl cI ad _ _ (n + 2)) rfl rfl rfl rfl hl.1 rfl (Nat.le_of_ble_eq_true rfl) dL_order_7 ⟨Nat.le_of_ble_eq_true rfl, Nat.le_of_ble_eq_true rfl⟩ (fun z H locs hres hP hO hD hS => ?_) (fun E ce q9 H locs hres hP hO hS h1 h2 h3 => ?_)
  · skip
    refine lv_i2l (v := Int32.toInt64 z) hx hb dL_order_10 rfl ?_
    refine sp_ost hx hb hJ hP hO (by first | exact ho | (intro h9; exact ho (by rw [← xb_fst rfl cI ad _ _ (n + 2)]; exact h9))) hD hAo hS dL_order_11 (fun f2 H locs hf2 hP hO hS => ?_)
    refine lv_goto (tgt := 23) hx hb dL_order_12 (by decide) ?_
    refine lv_iconst (v := 0) hx hb dL_order_23 (by decide) ?_
    subst hQ
    refine vx_ret (W.widen (k := 2) (n := 12) (Nat.le_of_ble_eq_true rfl) (Nat.le_of_ble_eq_true rfl) ?_)
    exact W.iret hx hb hr (fun t ht hW => ⟨⟨_, f2, rfl, ⟨by rw [hres]; rfl, fun v hv => by rw [hres] at hv; rw [← Sum.inl.inj hv]; exact hf2⟩, by dsimp only; rw [ht, hres]; exact ⟨hP, hO⟩⟩, hS.F ht⟩) hS.2.2 dL_order_24
  · skip
    have hE : E = xIOB ∨ E = xIAE := by
      simp only [rOrder] at hres
      repeat' split at hres
      all_goals first | cases hres; done | exact Or.inl (Sum.inr.inj hres).symm | exact Or.inr (Sum.inr.inj hres).symm
    rcases hE with rfl | rfl
    · skip
      refine vx_catch (own := RL) (name := xIOB) hown [] (⟨0, 12, 15, 32⟩ : ExceptionTableEntry) [(⟨0, 12, 19, 13⟩ : ExceptionTableEntry)] (htab.trans rfl) (fun z hz => absurd hz List.not_mem_nil) rfl (by decide) (hts (.classLink RL 32 xIOB) (by decide +kernel)) (va_Nw.use rfl hXS.2.2.2.1) h1 h2 h3 ?_
      show W p l e _ s m args below meth c H locs _ _ Q (F0 m 15 ls [.ref q9])
      refine lv_astore (lv' := [(5, .ref q9), (0, .ref r), (1, .int x), (2, .int a), (3, .int b), (4, .ref o)]) hx hb dL_order_15 hl (by decide) rfl (fun ls hl => ?_)
      refine lv_iconst (v := 1) hx hb dL_order_17 (by decide) ?_
      subst hQ
      refine vx_ret (W.widen (k := 2) (n := 12) (Nat.le_of_ble_eq_true rfl) (Nat.le_of_ble_eq_true rfl) ?_)
      exact W.iret hx hb hr (fun t ht hW => ⟨⟨_, f, rfl, ⟨by rw [hres]; simp [hcode, hcOA, xIAE, xISE, xIOB], fun v hv => by rw [hres] at hv; cases hv⟩, by dsimp only; rw [ht, hres]; exact ⟨hP, hO⟩⟩, hS.F ht⟩) hS.2.2 dL_order_18
    · skip
      refine vx_catch (own := RL) (name := xIAE) hown [(⟨0, 12, 15, 32⟩ : ExceptionTableEntry)] (⟨0, 12, 19, 13⟩ : ExceptionTableEntry) [] (htab.trans rfl) (fun z hz => Or.inr ((fun e => by subst e; exact ⟨by decide, xIOB, (hts (.classLink RL 32 xIOB) (by decide +kernel)), hXN.2.1⟩) (List.mem_singleton.mp hz))) rfl (by decide) (hts (.classLink RL 13 xIAE) (by decide +kernel)) (va_Nw.use rfl hXS.2.1) h1 h2 h3 ?_
      show W p l e _ s m args below meth c H locs _ _ Q (F0 m 19 ls [.ref q9])
      refine lv_astore (lv' := [(5, .ref q9), (0, .ref r), (1, .int x), (2, .int a), (3, .int b), (4, .ref o)]) hx hb dL_order_19 hl (by decide) rfl (fun ls hl => ?_)
      refine lv_iconst (v := 2) hx hb dL_order_21 (by decide) ?_
      subst hQ
      refine vx_ret (W.widen (k := 2) (n := 12) (Nat.le_of_ble_eq_true rfl) (Nat.le_of_ble_eq_true rfl) ?_)
      exact W.iret hx hb hr (fun t ht hW => ⟨⟨_, f, rfl, ⟨by rw [hres]; simp [hcode, hcOA, xIAE, xISE, xIOB], fun v hv => by rw [hres] at hv; cases hv⟩, by dsimp only; rw [ht, hres]; exact ⟨hP, hO⟩⟩, hS.F ht⟩) hS.2.2 dL_order_22

abbrev rmL_run : Room := { frames := 7, cells := 1, slots := 6, locals := 140 }
set_option maxHeartbeats 4000000 in
set_option maxRecDepth 100000 in
/-- the law's run -/
theorem mL_run (l : Launch) (D : va_G) (cI cT cJ : ClassId) (hl9 : l.stackTraces = false) (sz o : Nat) (f : Nat → Int64) (r tr k1 k2 k3 ts : Nat) (ad : Nat → Nat → Nat) (n : Nat) (hn : n ≤ 6) (tick : Int32) (KF S U V : Nat → Int32) (T : Nat → TV) (hT : cTeams T n) (ns : Nat) (hns : ns ≤ 12) (hk : KF 3 = nI ns) (x : Int32) : MetHm l D cI cT cJ yL_run wsL_run rmL_run [.ref r, .int x, .ref o] ([(r, oR tr ts (ad 0 0) (ad 1 0) (nI n) tick), (tr, oK KF k1 k2 k3), (k1, aI cI 12 S), (k2, aI cI 12 U), (k3, aI cI 12 V), (ts, aQ cT 6 (tq ad n))] ++ blks cI ad T (n + 2)) ([(r, oR tr ts (ad 0 0) (ad 1 0) (nI n) (tick + x)), (tr, oK KF k1 k2 k3), (k1, aI cI 12 S), (k2, aI cI 12 U), (k3, aI cI 12 V), (ts, aQ cT 6 (tq ad n))] ++ blks cI ad (cRunT S U V ns (KF 4) tick T n x.toNatClampNeg) (n + 2)) o f hc12 (rRun x S U V ns (KF 4) tick T n) 1 6 sz := by
  refine Met.ofX (vx_ofWH (cc := cL_run) (maxL := 4) (ret := (some .int)) (by decide) rfl ?_)
  intro p e s m args below meth c s₁ B hml hv
  obtain ⟨⟨⟨hargs, hsz, hP, hR0, hK, hN⟩, hXZ, hXS⟩, hO, ho, hJ, hXN⟩ := hv
  subst hsz
  have hx := B.exec
  have hb := B.bytes
  have hr := B.returns
  have hts := atoms_spec (ws := wsL_run) B.pre
  have hown : s.vm.findClass RL = some m.cls := findClass_of_methodNamed B.named
  have hlocks := B.notSynchronized
  have htab := vx_table (x := yL_run) B (hts (Cond.codeWith yL_run cL_run 4 (some .int) [(0, 9, 12, 13), (0, 9, 15, 15)]) List.mem_cons_self)
  have he : entryFrame m args 4 = F0 m 0 ((lg_sl [.ref r, .int x, .ref o] ++ List.replicate (4 - (lg_sl [.ref r, .int x, .ref o]).length) Slot.unset).toArray) [] := by rw [hargs]; exact lg_entry_eq m _ _
  rw [he]
  obtain ⟨A, hAe⟩ : ∃ A, A = (frA (List.map Prod.fst ([(r, oR tr ts (ad 0 0) (ad 1 0) (nI n) tick), (tr, oK KF k1 k2 k3), (k1, aI cI 12 S), (k2, aI cI 12 U), (k3, aI cI 12 V), (ts, aQ cT 6 (tq ad n))] ++ blks cI ad T (n + 2)) ++ [o]) s.heap.size) := ⟨_, rfl⟩
  change W p l e rmL_run s m args below meth c s.heap [] 0 0 (vx_MQ below (va_Qi (S := Nat → Int64) (fun z f2 => z = hcode hc12 (rRun x S U V ns (KF 4) tick T n) ∧ ∀ v, (rRun x S U V ns (KF 4) tick T n) = .inl v → f2 0 = Int32.toInt64 v) (fun f2 t => va_P D vwCl (hWd (rRun x S U V ns (KF 4) tick T n) ([(r, oR tr ts (ad 0 0) (ad 1 0) (nI n) tick), (tr, oK KF k1 k2 k3), (k1, aI cI 12 S), (k2, aI cI 12 U), (k3, aI cI 12 V), (ts, aQ cT 6 (tq ad n))] ++ blks cI ad T (n + 2)) ([(r, oR tr ts (ad 0 0) (ad 1 0) (nI n) (tick + x)), (tr, oK KF k1 k2 k3), (k1, aI cI 12 S), (k2, aI cI 12 U), (k3, aI cI 12 V), (ts, aQ cT 6 (tq ad n))] ++ blks cI ad (cRunT S U V ns (KF 4) tick T n x.toNatClampNeg) (n + 2))) t.heap ∧ va_P D vwCl [(o, aJ cJ f2)] t.heap) (frA (List.map Prod.fst ([(r, oR tr ts (ad 0 0) (ad 1 0) (nI n) tick), (tr, oK KF k1 k2 k3), (k1, aI cI 12 S), (k2, aI cI 12 U), (k3, aI cI 12 V), (ts, aQ cT 6 (tq ad n))] ++ blks cI ad T (n + 2)) ++ [o]) s.heap.size)) (fun _ _ _ => False) args s 1 6 (frA (List.map Prod.fst ([(r, oR tr ts (ad 0 0) (ad 1 0) (nI n) tick), (tr, oK KF k1 k2 k3), (k1, aI cI 12 S), (k2, aI cI 12 U), (k3, aI cI 12 V), (ts, aQ cT 6 (tq ad n))] ++ blks cI ad T (n + 2)) ++ [o]) s.heap.size)) _
  rw [← hAe]
  have hXZ : XZ A s s.heap := by rw [hAe]; exact hXZ
  obtain ⟨Q, hQ⟩ : ∃ Q, Q = vx_MQ below (va_Qi (S := Nat → Int64) (fun z f2 => z = hcode hc12 (rRun x S U V ns (KF 4) tick T n) ∧ ∀ v, (rRun x S U V ns (KF 4) tick T n) = .inl v → f2 0 = Int32.toInt64 v) (fun f2 t => va_P D vwCl (hWd (rRun x S U V ns (KF 4) tick T n) ([(r, oR tr ts (ad 0 0) (ad 1 0) (nI n) tick), (tr, oK KF k1 k2 k3), (k1, aI cI 12 S), (k2, aI cI 12 U), (k3, aI cI 12 V), (ts, aQ cT 6 (tq ad n))] ++ blks cI ad T (n + 2)) ([(r, oR tr ts (ad 0 0) (ad 1 0) (nI n) (tick + x)), (tr, oK KF k1 k2 k3), (k1, aI cI 12 S), (k2, aI cI 12 U), (k3, aI cI 12 V), (ts, aQ cT 6 (tq ad n))] ++ blks cI ad (cRunT S U V ns (KF 4) tick T n x.toNatClampNeg) (n + 2))) t.heap ∧ va_P D vwCl [(o, aJ cJ f2)] t.heap) A) (fun _ _ _ => False) args s 1 6 A := ⟨_, rfl⟩
  rw [← hQ]
  have hl := lv_entry [.ref r, .int x, .ref o] (n := 4) (Nat.le_of_ble_eq_true rfl)
  generalize (lg_sl [.ref r, .int x, .ref o] ++ List.replicate (4 - (lg_sl [.ref r, .int x, .ref o]).length) Slot.unset).toArray = ls at hl ⊢
  have hl : lv_has ls 4 [(0, .ref r), (1, .int x), (2, .ref o)] := hl
  have hA : ∀ q : Nat, s.heap.size ≤ q → A q := by rw [hAe]; exact fun q h => Or.inr h
  have hAo : A o := by rw [hAe]; exact Or.inl (List.mem_append_right _ (List.mem_singleton.mpr rfl))
  have hD : va_D A ([(r, oR tr ts (ad 0 0) (ad 1 0) (nI n) tick), (tr, oK KF k1 k2 k3), (k1, aI cI 12 S), (k2, aI cI 12 U), (k3, aI cI 12 V), (ts, aQ cT 6 (tq ad n))] ++ blks cI ad T (n + 2)) := sp_D (by rw [List.append_nil] at hN; exact hN) (by rw [hAe]; exact fun q h => Or.inl (List.mem_append_left _ h))
  have hS : va_S A s.heap s.heap [] := va_S.rf
  obtain ⟨H, hH0⟩ : ∃ H, H = s.heap := ⟨_, rfl⟩
  obtain ⟨locs, hlo⟩ : ∃ L : List Loc, L = [] := ⟨_, rfl⟩
  have hP : va_P D vwCl ([(r, oR tr ts (ad 0 0) (ad 1 0) (nI n) tick), (tr, oK KF k1 k2 k3), (k1, aI cI 12 S), (k2, aI cI 12 U), (k3, aI cI 12 V), (ts, aQ cT 6 (tq ad n))] ++ blks cI ad T (n + 2)) H := by rw [hH0]; exact hP
  have hO : va_P D vwCl [(o, aJ cJ f)] H := by rw [hH0]; exact hO
  have hS : va_S A s.heap H locs := by rw [hH0, hlo]; exact hS
  rw [show W p l e rmL_run s m args below meth c s.heap [] 0 0 Q (F0 m 0 ls []) = W p l e rmL_run s m args below meth c H locs 0 0 Q (F0 m 0 ls []) by rw [hH0, hlo]]
  clear hH0 hlo
  refine lv_aload_n hx hb dL_run_0 rfl (lv_at hl 2 rfl) ?_
  refine lv_iconst (v := 0) hx hb dL_run_1 (by decide) ?_
  refine lv_aload_n hx hb dL_run_2 rfl (lv_at hl 0 rfl) ?_
  refine lv_iload_n hx hb dL_run_3 rfl (lv_at hl 1 rfl) ?_
  refine sp_oI (rest := [.int 0, .ref o]) (As := [.int x]) (W1 := ([(r, oR tr ts (ad 0 0) (ad 1 0) (nI n) (tick + x)), (tr, oK KF k1 k2 k3), (k1, aI cI 12 S), (k2, aI cI 12 U), (k3, aI cI 12 V), (ts, aQ cT 6 (tq ad n))] ++ blks cI ad (cRunT S U V ns (KF 4) tick T n x.toNatClampNeg) (n + 2))) (ci := 2) ⟨hx, hb, hml, hown, hts⟩ (mX2_run l D cI cT hl9 H.size r tr k1 k2 k3 ts ad n hn tick KF S U V T hT ns hns hk x) (cwV 1 hts gL_run_X2_run rfl rfl rfl (by decide +kernel) ⟨Nat.le_of_ble_eq_true rfl, Nat.le_of_ble_eq_true rfl⟩) hK hXZ hXS hP hO ho hD hS hA (xb_fst rfl cI ad _ _ (n + 2)) rfl rfl rfl rfl hl.1 rfl (Nat.le_of_ble_eq_true rfl) dL_run_4 ⟨Nat.le_of_ble_eq_true rfl, Nat.le_of_ble_eq_true rfl⟩ (fun z H locs hres hP hO hD hS => ?_) (fun E ce q9 H locs hres hP hO hS h1 h2 h3 => ?_)
  · skip
    refine lv_i2l (v := Int32.toInt64 z) hx hb dL_run_7 rfl ?_
    refine sp_ost hx hb hJ hP hO (by first | exact ho | (intro h9; exact ho (by rw [← xb_fst rfl cI ad _ _ (n + 2)]; exact h9))) hD hAo hS dL_run_8 (fun f2 H locs hf2 hP hO hS => ?_)
    refine lv_goto (tgt := 18) hx hb dL_run_9 (by decide) ?_
    refine lv_iconst (v := 0) hx hb dL_run_18 (by decide) ?_
    subst hQ
    refine vx_ret (W.widen (k := 1) (n := 6) (Nat.le_of_ble_eq_true rfl) (Nat.le_of_ble_eq_true rfl) ?_)
    exact W.iret hx hb hr (fun t ht hW => ⟨⟨_, f2, rfl, ⟨by rw [hres]; rfl, fun v hv => by rw [hres] at hv; rw [← Sum.inl.inj hv]; exact hf2⟩, by dsimp only; rw [ht, hres]; exact ⟨hP, hO⟩⟩, hS.F ht⟩) hS.2.2 dL_run_19
  · skip
    have hE : E = xIAE ∨ E = xISE := by
      simp only [rRun] at hres
      repeat' split at hres
      all_goals first | cases hres; done | exact Or.inl (Sum.inr.inj hres).symm | exact Or.inr (Sum.inr.inj hres).symm
    rcases hE with rfl | rfl
    · skip
      refine vx_catch (own := RL) (name := xIAE) hown [] (⟨0, 9, 12, 13⟩ : ExceptionTableEntry) [(⟨0, 9, 15, 15⟩ : ExceptionTableEntry)] (htab.trans rfl) (fun z hz => absurd hz List.not_mem_nil) rfl (by decide) (hts (.classLink RL 13 xIAE) (by decide +kernel)) (va_Nw.use rfl hXS.2.1) h1 h2 h3 ?_
      show W p l e _ s m args below meth c H locs _ _ Q (F0 m 12 ls [.ref q9])
      refine lv_astore_n (lv' := [(3, .ref q9), (0, .ref r), (1, .int x), (2, .ref o)]) hx hb dL_run_12 rfl hl (by decide) rfl (fun ls hl => ?_)
      refine lv_iconst (v := 1) hx hb dL_run_13 (by decide) ?_
      subst hQ
      refine vx_ret (W.widen (k := 1) (n := 6) (Nat.le_of_ble_eq_true rfl) (Nat.le_of_ble_eq_true rfl) ?_)
      exact W.iret hx hb hr (fun t ht hW => ⟨⟨_, f, rfl, ⟨by rw [hres]; simp [hcode, hc12, xIAE, xISE, xIOB], fun v hv => by rw [hres] at hv; cases hv⟩, by dsimp only; rw [ht, hres]; exact ⟨hP, hO⟩⟩, hS.F ht⟩) hS.2.2 dL_run_14
    · skip
      refine vx_catch (own := RL) (name := xISE) hown [(⟨0, 9, 12, 13⟩ : ExceptionTableEntry)] (⟨0, 9, 15, 15⟩ : ExceptionTableEntry) [] (htab.trans rfl) (fun z hz => Or.inr ((fun e => by subst e; exact ⟨by decide, xIAE, (hts (.classLink RL 13 xIAE) (by decide +kernel)), hXN.1⟩) (List.mem_singleton.mp hz))) rfl (by decide) (hts (.classLink RL 15 xISE) (by decide +kernel)) (va_Nw.use rfl hXS.2.2.1) h1 h2 h3 ?_
      show W p l e _ s m args below meth c H locs _ _ Q (F0 m 15 ls [.ref q9])
      refine lv_astore_n (lv' := [(3, .ref q9), (0, .ref r), (1, .int x), (2, .ref o)]) hx hb dL_run_15 rfl hl (by decide) rfl (fun ls hl => ?_)
      refine lv_iconst (v := 2) hx hb dL_run_16 (by decide) ?_
      subst hQ
      refine vx_ret (W.widen (k := 1) (n := 6) (Nat.le_of_ble_eq_true rfl) (Nat.le_of_ble_eq_true rfl) ?_)
      exact W.iret hx hb hr (fun t ht hW => ⟨⟨_, f, rfl, ⟨by rw [hres]; simp [hcode, hc12, xIAE, xISE, xIOB], fun v hv => by rw [hres] at hv; cases hv⟩, by dsimp only; rw [ht, hres]; exact ⟨hP, hO⟩⟩, hS.F ht⟩) hS.2.2 dL_run_17

abbrev rmL_count : Room := { frames := 7, cells := 1, slots := 6, locals := 103 }
set_option maxHeartbeats 4000000 in
set_option maxRecDepth 100000 in
/-- the law's count -/
theorem mL_count (l : Launch) (D : va_G) (cI cT cJ : ClassId) (hl9 : l.stackTraces = false) (sz o : Nat) (f : Nat → Int64) (r tr k1 k2 k3 ts : Nat) (ad : Nat → Nat → Nat) (n : Nat) (hn : n ≤ 6) (tick : Int32) (KF S U V : Nat → Int32) (T : Nat → TV) (w : Int32) : MetHm l D cI cT cJ yL_count wsL_count rmL_count [.ref r, .int w, .ref o] ([(r, oR tr ts (ad 0 0) (ad 1 0) (nI n) tick), (tr, oK KF k1 k2 k3), (k1, aI cI 12 S), (k2, aI cI 12 U), (k3, aI cI 12 V), (ts, aQ cT 6 (tq ad n))] ++ blks cI ad T (n + 2)) ([(r, oR tr ts (ad 0 0) (ad 1 0) (nI n) tick), (tr, oK KF k1 k2 k3), (k1, aI cI 12 S), (k2, aI cI 12 U), (k3, aI cI 12 V), (ts, aQ cT 6 (tq ad n))] ++ blks cI ad T (n + 2)) o f hc1 (rCount w KF T n tick) 1 6 sz := by
  refine Met.ofX (vx_ofWH (cc := cL_count) (maxL := 4) (ret := (some .int)) (by decide) rfl ?_)
  intro p e s m args below meth c s₁ B hml hv
  obtain ⟨⟨⟨hargs, hsz, hP, hR0, hK, hN⟩, hXZ, hXS⟩, hO, ho, hJ, hXN⟩ := hv
  subst hsz
  have hx := B.exec
  have hb := B.bytes
  have hr := B.returns
  have hts := atoms_spec (ws := wsL_count) B.pre
  have hown : s.vm.findClass RL = some m.cls := findClass_of_methodNamed B.named
  have hlocks := B.notSynchronized
  have htab := vx_table (x := yL_count) B (hts (Cond.codeWith yL_count cL_count 4 (some .int) [(0, 9, 12, 32)]) List.mem_cons_self)
  have he : entryFrame m args 4 = F0 m 0 ((lg_sl [.ref r, .int w, .ref o] ++ List.replicate (4 - (lg_sl [.ref r, .int w, .ref o]).length) Slot.unset).toArray) [] := by rw [hargs]; exact lg_entry_eq m _ _
  rw [he]
  obtain ⟨A, hAe⟩ : ∃ A, A = (frA (List.map Prod.fst ([(r, oR tr ts (ad 0 0) (ad 1 0) (nI n) tick), (tr, oK KF k1 k2 k3), (k1, aI cI 12 S), (k2, aI cI 12 U), (k3, aI cI 12 V), (ts, aQ cT 6 (tq ad n))] ++ blks cI ad T (n + 2)) ++ [o]) s.heap.size) := ⟨_, rfl⟩
  change W p l e rmL_count s m args below meth c s.heap [] 0 0 (vx_MQ below (va_Qi (S := Nat → Int64) (fun z f2 => z = hcode hc1 (rCount w KF T n tick) ∧ ∀ v, (rCount w KF T n tick) = .inl v → f2 0 = Int32.toInt64 v) (fun f2 t => va_P D vwCl (hWd (rCount w KF T n tick) ([(r, oR tr ts (ad 0 0) (ad 1 0) (nI n) tick), (tr, oK KF k1 k2 k3), (k1, aI cI 12 S), (k2, aI cI 12 U), (k3, aI cI 12 V), (ts, aQ cT 6 (tq ad n))] ++ blks cI ad T (n + 2)) ([(r, oR tr ts (ad 0 0) (ad 1 0) (nI n) tick), (tr, oK KF k1 k2 k3), (k1, aI cI 12 S), (k2, aI cI 12 U), (k3, aI cI 12 V), (ts, aQ cT 6 (tq ad n))] ++ blks cI ad T (n + 2))) t.heap ∧ va_P D vwCl [(o, aJ cJ f2)] t.heap) (frA (List.map Prod.fst ([(r, oR tr ts (ad 0 0) (ad 1 0) (nI n) tick), (tr, oK KF k1 k2 k3), (k1, aI cI 12 S), (k2, aI cI 12 U), (k3, aI cI 12 V), (ts, aQ cT 6 (tq ad n))] ++ blks cI ad T (n + 2)) ++ [o]) s.heap.size)) (fun _ _ _ => False) args s 1 6 (frA (List.map Prod.fst ([(r, oR tr ts (ad 0 0) (ad 1 0) (nI n) tick), (tr, oK KF k1 k2 k3), (k1, aI cI 12 S), (k2, aI cI 12 U), (k3, aI cI 12 V), (ts, aQ cT 6 (tq ad n))] ++ blks cI ad T (n + 2)) ++ [o]) s.heap.size)) _
  rw [← hAe]
  have hXZ : XZ A s s.heap := by rw [hAe]; exact hXZ
  obtain ⟨Q, hQ⟩ : ∃ Q, Q = vx_MQ below (va_Qi (S := Nat → Int64) (fun z f2 => z = hcode hc1 (rCount w KF T n tick) ∧ ∀ v, (rCount w KF T n tick) = .inl v → f2 0 = Int32.toInt64 v) (fun f2 t => va_P D vwCl (hWd (rCount w KF T n tick) ([(r, oR tr ts (ad 0 0) (ad 1 0) (nI n) tick), (tr, oK KF k1 k2 k3), (k1, aI cI 12 S), (k2, aI cI 12 U), (k3, aI cI 12 V), (ts, aQ cT 6 (tq ad n))] ++ blks cI ad T (n + 2)) ([(r, oR tr ts (ad 0 0) (ad 1 0) (nI n) tick), (tr, oK KF k1 k2 k3), (k1, aI cI 12 S), (k2, aI cI 12 U), (k3, aI cI 12 V), (ts, aQ cT 6 (tq ad n))] ++ blks cI ad T (n + 2))) t.heap ∧ va_P D vwCl [(o, aJ cJ f2)] t.heap) A) (fun _ _ _ => False) args s 1 6 A := ⟨_, rfl⟩
  rw [← hQ]
  have hl := lv_entry [.ref r, .int w, .ref o] (n := 4) (Nat.le_of_ble_eq_true rfl)
  generalize (lg_sl [.ref r, .int w, .ref o] ++ List.replicate (4 - (lg_sl [.ref r, .int w, .ref o]).length) Slot.unset).toArray = ls at hl ⊢
  have hl : lv_has ls 4 [(0, .ref r), (1, .int w), (2, .ref o)] := hl
  have hA : ∀ q : Nat, s.heap.size ≤ q → A q := by rw [hAe]; exact fun q h => Or.inr h
  have hAo : A o := by rw [hAe]; exact Or.inl (List.mem_append_right _ (List.mem_singleton.mpr rfl))
  have hD : va_D A ([(r, oR tr ts (ad 0 0) (ad 1 0) (nI n) tick), (tr, oK KF k1 k2 k3), (k1, aI cI 12 S), (k2, aI cI 12 U), (k3, aI cI 12 V), (ts, aQ cT 6 (tq ad n))] ++ blks cI ad T (n + 2)) := sp_D (by rw [List.append_nil] at hN; exact hN) (by rw [hAe]; exact fun q h => Or.inl (List.mem_append_left _ h))
  have hS : va_S A s.heap s.heap [] := va_S.rf
  obtain ⟨H, hH0⟩ : ∃ H, H = s.heap := ⟨_, rfl⟩
  obtain ⟨locs, hlo⟩ : ∃ L : List Loc, L = [] := ⟨_, rfl⟩
  have hP : va_P D vwCl ([(r, oR tr ts (ad 0 0) (ad 1 0) (nI n) tick), (tr, oK KF k1 k2 k3), (k1, aI cI 12 S), (k2, aI cI 12 U), (k3, aI cI 12 V), (ts, aQ cT 6 (tq ad n))] ++ blks cI ad T (n + 2)) H := by rw [hH0]; exact hP
  have hO : va_P D vwCl [(o, aJ cJ f)] H := by rw [hH0]; exact hO
  have hS : va_S A s.heap H locs := by rw [hH0, hlo]; exact hS
  rw [show W p l e rmL_count s m args below meth c s.heap [] 0 0 Q (F0 m 0 ls []) = W p l e rmL_count s m args below meth c H locs 0 0 Q (F0 m 0 ls []) by rw [hH0, hlo]]
  clear hH0 hlo
  refine lv_aload_n hx hb dL_count_0 rfl (lv_at hl 2 rfl) ?_
  refine lv_iconst (v := 0) hx hb dL_count_1 (by decide) ?_
  refine lv_aload_n hx hb dL_count_2 rfl (lv_at hl 0 rfl) ?_
  refine lv_iload_n hx hb dL_count_3 rfl (lv_at hl 1 rfl) ?_
  refine sp_oI (rest := [.int 0, .ref o]) (As := [.int w]) (W1 := ([(r, oR tr ts (ad 0 0) (ad 1 0) (nI n) tick), (tr, oK KF k1 k2 k3), (k1, aI cI 12 S), (k2, aI cI 12 U), (k3, aI cI 12 V), (ts, aQ cT 6 (tq ad n))] ++ blks cI ad T (n + 2))) (ci := 2) ⟨hx, hb, hml, hown, hts⟩ (mX2_count l D cI cT hl9 H.size r tr k1 k2 k3 ts ad n hn tick KF S U V T w) (cwV 1 hts gL_count_X2_count rfl rfl rfl (by decide +kernel) ⟨Nat.le_of_ble_eq_true rfl, Nat.le_of_ble_eq_true rfl⟩) hK hXZ hXS hP hO ho hD hS hA (xb_fst rfl cI ad _ _ (n + 2)) rfl rfl rfl rfl hl.1 rfl (Nat.le_of_ble_eq_true rfl) dL_count_4 ⟨Nat.le_of_ble_eq_true rfl, Nat.le_of_ble_eq_true rfl⟩ (fun z H locs hres hP hO hD hS => ?_) (fun E ce q9 H locs hres hP hO hS h1 h2 h3 => ?_)
  · skip
    refine lv_i2l (v := Int32.toInt64 z) hx hb dL_count_7 rfl ?_
    refine sp_ost hx hb hJ hP hO (by first | exact ho | (intro h9; exact ho (by rw [← xb_fst rfl cI ad _ _ (n + 2)]; exact h9))) hD hAo hS dL_count_8 (fun f2 H locs hf2 hP hO hS => ?_)
    refine lv_goto (tgt := 15) hx hb dL_count_9 (by decide) ?_
    refine lv_iconst (v := 0) hx hb dL_count_15 (by decide) ?_
    subst hQ
    refine vx_ret (W.widen (k := 1) (n := 6) (Nat.le_of_ble_eq_true rfl) (Nat.le_of_ble_eq_true rfl) ?_)
    exact W.iret hx hb hr (fun t ht hW => ⟨⟨_, f2, rfl, ⟨by rw [hres]; rfl, fun v hv => by rw [hres] at hv; rw [← Sum.inl.inj hv]; exact hf2⟩, by dsimp only; rw [ht, hres]; exact ⟨hP, hO⟩⟩, hS.F ht⟩) hS.2.2 dL_count_16
  · skip
    have hE : E = xIOB := by
      simp only [rCount] at hres
      repeat' split at hres
      all_goals first | cases hres; done | exact (Sum.inr.inj hres).symm
    subst hE
    · skip
      refine vx_catch (own := RL) (name := xIOB) hown [] (⟨0, 9, 12, 32⟩ : ExceptionTableEntry) [] (htab.trans rfl) (fun z hz => absurd hz List.not_mem_nil) rfl (by decide) (hts (.classLink RL 32 xIOB) (by decide +kernel)) (va_Nw.use rfl hXS.2.2.2.1) h1 h2 h3 ?_
      show W p l e _ s m args below meth c H locs _ _ Q (F0 m 12 ls [.ref q9])
      refine lv_astore_n (lv' := [(3, .ref q9), (0, .ref r), (1, .int w), (2, .ref o)]) hx hb dL_count_12 rfl hl (by decide) rfl (fun ls hl => ?_)
      refine lv_iconst (v := 1) hx hb dL_count_13 (by decide) ?_
      subst hQ
      refine vx_ret (W.widen (k := 1) (n := 6) (Nat.le_of_ble_eq_true rfl) (Nat.le_of_ble_eq_true rfl) ?_)
      exact W.iret hx hb hr (fun t ht hW => ⟨⟨_, f, rfl, ⟨by rw [hres]; simp [hcode, hc1, xIAE, xISE, xIOB], fun v hv => by rw [hres] at hv; cases hv⟩, by dsimp only; rw [ht, hres]; exact ⟨hP, hO⟩⟩, hS.F ht⟩) hS.2.2 dL_count_14

abbrev rmL_team : Room := { frames := 8, cells := 2, slots := 12, locals := 127 }
set_option maxHeartbeats 4000000 in
set_option maxRecDepth 100000 in
/-- the law's team -/
theorem mL_team (l : Launch) (D : va_G) (cI cT cJ : ClassId) (hl9 : l.stackTraces = false) (sz o : Nat) (f : Nat → Int64) (r tr k1 k2 k3 ts : Nat) (ad : Nat → Nat → Nat) (n : Nat) (hn : n ≤ 6) (tick : Int32) (KF S U V : Nat → Int32) (T : Nat → TV) (hT : cTeams T n) (x w : Int32) : MetHm l D cI cT cJ yL_team wsL_team rmL_team [.ref r, .int x, .int w, .ref o] ([(r, oR tr ts (ad 0 0) (ad 1 0) (nI n) tick), (tr, oK KF k1 k2 k3), (k1, aI cI 12 S), (k2, aI cI 12 U), (k3, aI cI 12 V), (ts, aQ cT 6 (tq ad n))] ++ blks cI ad T (n + 2)) ([(r, oR tr ts (ad 0 0) (ad 1 0) (nI n) tick), (tr, oK KF k1 k2 k3), (k1, aI cI 12 S), (k2, aI cI 12 U), (k3, aI cI 12 V), (ts, aQ cT 6 (tq ad n))] ++ blks cI ad T (n + 2)) o f hc1 (rTeam x w n T) 2 12 sz := by
  refine Met.ofX (vx_ofWH (cc := cL_team) (maxL := 5) (ret := (some .int)) (by decide) rfl ?_)
  intro p e s m args below meth c s₁ B hml hv
  obtain ⟨⟨⟨hargs, hsz, hP, hR0, hK, hN⟩, hXZ, hXS⟩, hO, ho, hJ, hXN⟩ := hv
  subst hsz
  have hx := B.exec
  have hb := B.bytes
  have hr := B.returns
  have hts := atoms_spec (ws := wsL_team) B.pre
  have hown : s.vm.findClass RL = some m.cls := findClass_of_methodNamed B.named
  have hlocks := B.notSynchronized
  have htab := vx_table (x := yL_team) B (hts (Cond.codeWith yL_team cL_team 5 (some .int) [(0, 10, 13, 32)]) List.mem_cons_self)
  have he : entryFrame m args 5 = F0 m 0 ((lg_sl [.ref r, .int x, .int w, .ref o] ++ List.replicate (5 - (lg_sl [.ref r, .int x, .int w, .ref o]).length) Slot.unset).toArray) [] := by rw [hargs]; exact lg_entry_eq m _ _
  rw [he]
  obtain ⟨A, hAe⟩ : ∃ A, A = (frA (List.map Prod.fst ([(r, oR tr ts (ad 0 0) (ad 1 0) (nI n) tick), (tr, oK KF k1 k2 k3), (k1, aI cI 12 S), (k2, aI cI 12 U), (k3, aI cI 12 V), (ts, aQ cT 6 (tq ad n))] ++ blks cI ad T (n + 2)) ++ [o]) s.heap.size) := ⟨_, rfl⟩
  change W p l e rmL_team s m args below meth c s.heap [] 0 0 (vx_MQ below (va_Qi (S := Nat → Int64) (fun z f2 => z = hcode hc1 (rTeam x w n T) ∧ ∀ v, (rTeam x w n T) = .inl v → f2 0 = Int32.toInt64 v) (fun f2 t => va_P D vwCl (hWd (rTeam x w n T) ([(r, oR tr ts (ad 0 0) (ad 1 0) (nI n) tick), (tr, oK KF k1 k2 k3), (k1, aI cI 12 S), (k2, aI cI 12 U), (k3, aI cI 12 V), (ts, aQ cT 6 (tq ad n))] ++ blks cI ad T (n + 2)) ([(r, oR tr ts (ad 0 0) (ad 1 0) (nI n) tick), (tr, oK KF k1 k2 k3), (k1, aI cI 12 S), (k2, aI cI 12 U), (k3, aI cI 12 V), (ts, aQ cT 6 (tq ad n))] ++ blks cI ad T (n + 2))) t.heap ∧ va_P D vwCl [(o, aJ cJ f2)] t.heap) (frA (List.map Prod.fst ([(r, oR tr ts (ad 0 0) (ad 1 0) (nI n) tick), (tr, oK KF k1 k2 k3), (k1, aI cI 12 S), (k2, aI cI 12 U), (k3, aI cI 12 V), (ts, aQ cT 6 (tq ad n))] ++ blks cI ad T (n + 2)) ++ [o]) s.heap.size)) (fun _ _ _ => False) args s 2 12 (frA (List.map Prod.fst ([(r, oR tr ts (ad 0 0) (ad 1 0) (nI n) tick), (tr, oK KF k1 k2 k3), (k1, aI cI 12 S), (k2, aI cI 12 U), (k3, aI cI 12 V), (ts, aQ cT 6 (tq ad n))] ++ blks cI ad T (n + 2)) ++ [o]) s.heap.size)) _
  rw [← hAe]
  have hXZ : XZ A s s.heap := by rw [hAe]; exact hXZ
  obtain ⟨Q, hQ⟩ : ∃ Q, Q = vx_MQ below (va_Qi (S := Nat → Int64) (fun z f2 => z = hcode hc1 (rTeam x w n T) ∧ ∀ v, (rTeam x w n T) = .inl v → f2 0 = Int32.toInt64 v) (fun f2 t => va_P D vwCl (hWd (rTeam x w n T) ([(r, oR tr ts (ad 0 0) (ad 1 0) (nI n) tick), (tr, oK KF k1 k2 k3), (k1, aI cI 12 S), (k2, aI cI 12 U), (k3, aI cI 12 V), (ts, aQ cT 6 (tq ad n))] ++ blks cI ad T (n + 2)) ([(r, oR tr ts (ad 0 0) (ad 1 0) (nI n) tick), (tr, oK KF k1 k2 k3), (k1, aI cI 12 S), (k2, aI cI 12 U), (k3, aI cI 12 V), (ts, aQ cT 6 (tq ad n))] ++ blks cI ad T (n + 2))) t.heap ∧ va_P D vwCl [(o, aJ cJ f2)] t.heap) A) (fun _ _ _ => False) args s 2 12 A := ⟨_, rfl⟩
  rw [← hQ]
  have hl := lv_entry [.ref r, .int x, .int w, .ref o] (n := 5) (Nat.le_of_ble_eq_true rfl)
  generalize (lg_sl [.ref r, .int x, .int w, .ref o] ++ List.replicate (5 - (lg_sl [.ref r, .int x, .int w, .ref o]).length) Slot.unset).toArray = ls at hl ⊢
  have hl : lv_has ls 5 [(0, .ref r), (1, .int x), (2, .int w), (3, .ref o)] := hl
  have hA : ∀ q : Nat, s.heap.size ≤ q → A q := by rw [hAe]; exact fun q h => Or.inr h
  have hAo : A o := by rw [hAe]; exact Or.inl (List.mem_append_right _ (List.mem_singleton.mpr rfl))
  have hD : va_D A ([(r, oR tr ts (ad 0 0) (ad 1 0) (nI n) tick), (tr, oK KF k1 k2 k3), (k1, aI cI 12 S), (k2, aI cI 12 U), (k3, aI cI 12 V), (ts, aQ cT 6 (tq ad n))] ++ blks cI ad T (n + 2)) := sp_D (by rw [List.append_nil] at hN; exact hN) (by rw [hAe]; exact fun q h => Or.inl (List.mem_append_left _ h))
  have hS : va_S A s.heap s.heap [] := va_S.rf
  obtain ⟨H, hH0⟩ : ∃ H, H = s.heap := ⟨_, rfl⟩
  obtain ⟨locs, hlo⟩ : ∃ L : List Loc, L = [] := ⟨_, rfl⟩
  have hP : va_P D vwCl ([(r, oR tr ts (ad 0 0) (ad 1 0) (nI n) tick), (tr, oK KF k1 k2 k3), (k1, aI cI 12 S), (k2, aI cI 12 U), (k3, aI cI 12 V), (ts, aQ cT 6 (tq ad n))] ++ blks cI ad T (n + 2)) H := by rw [hH0]; exact hP
  have hO : va_P D vwCl [(o, aJ cJ f)] H := by rw [hH0]; exact hO
  have hS : va_S A s.heap H locs := by rw [hH0, hlo]; exact hS
  rw [show W p l e rmL_team s m args below meth c s.heap [] 0 0 Q (F0 m 0 ls []) = W p l e rmL_team s m args below meth c H locs 0 0 Q (F0 m 0 ls []) by rw [hH0, hlo]]
  clear hH0 hlo
  refine lv_aload_n hx hb dL_team_0 rfl (lv_at hl 3 rfl) ?_
  refine lv_iconst (v := 0) hx hb dL_team_1 (by decide) ?_
  refine lv_aload_n hx hb dL_team_2 rfl (lv_at hl 0 rfl) ?_
  refine lv_iload_n hx hb dL_team_3 rfl (lv_at hl 1 rfl) ?_
  refine lv_iload_n hx hb dL_team_4 rfl (lv_at hl 2 rfl) ?_
  refine sp_oI (rest := [.int 0, .ref o]) (As := [.int x, .int w]) (W1 := ([(r, oR tr ts (ad 0 0) (ad 1 0) (nI n) tick), (tr, oK KF k1 k2 k3), (k1, aI cI 12 S), (k2, aI cI 12 U), (k3, aI cI 12 V), (ts, aQ cT 6 (tq ad n))] ++ blks cI ad T (n + 2))) (ci := 2) ⟨hx, hb, hml, hown, hts⟩ (mX2_team l D cI cT hl9 H.size r tr k1 k2 k3 ts ad n hn tick KF S U V T hT x w) (cwV 2 hts gL_team_X2_team rfl rfl rfl (by decide +kernel) ⟨Nat.le_of_ble_eq_true rfl, Nat.le_of_ble_eq_true rfl⟩) hK hXZ hXS hP hO ho hD hS hA (xb_fst rfl cI ad _ _ (n + 2)) rfl rfl rfl rfl hl.1 rfl (Nat.le_of_ble_eq_true rfl) dL_team_5 ⟨Nat.le_of_ble_eq_true rfl, Nat.le_of_ble_eq_true rfl⟩ (fun z H locs hres hP hO hD hS => ?_) (fun E ce q9 H locs hres hP hO hS h1 h2 h3 => ?_)
  · skip
    refine lv_i2l (v := Int32.toInt64 z) hx hb dL_team_8 rfl ?_
    refine sp_ost hx hb hJ hP hO (by first | exact ho | (intro h9; exact ho (by rw [← xb_fst rfl cI ad _ _ (n + 2)]; exact h9))) hD hAo hS dL_team_9 (fun f2 H locs hf2 hP hO hS => ?_)
    refine lv_goto (tgt := 17) hx hb dL_team_10 (by decide) ?_
    refine lv_iconst (v := 0) hx hb dL_team_17 (by decide) ?_
    subst hQ
    refine vx_ret (W.widen (k := 2) (n := 12) (Nat.le_of_ble_eq_true rfl) (Nat.le_of_ble_eq_true rfl) ?_)
    exact W.iret hx hb hr (fun t ht hW => ⟨⟨_, f2, rfl, ⟨by rw [hres]; rfl, fun v hv => by rw [hres] at hv; rw [← Sum.inl.inj hv]; exact hf2⟩, by dsimp only; rw [ht, hres]; exact ⟨hP, hO⟩⟩, hS.F ht⟩) hS.2.2 dL_team_18
  · skip
    have hE : E = xIOB := by
      simp only [rTeam] at hres
      repeat' split at hres
      all_goals first | cases hres; done | exact (Sum.inr.inj hres).symm
    subst hE
    · skip
      refine vx_catch (own := RL) (name := xIOB) hown [] (⟨0, 10, 13, 32⟩ : ExceptionTableEntry) [] (htab.trans rfl) (fun z hz => absurd hz List.not_mem_nil) rfl (by decide) (hts (.classLink RL 32 xIOB) (by decide +kernel)) (va_Nw.use rfl hXS.2.2.2.1) h1 h2 h3 ?_
      show W p l e _ s m args below meth c H locs _ _ Q (F0 m 13 ls [.ref q9])
      refine lv_astore (lv' := [(4, .ref q9), (0, .ref r), (1, .int x), (2, .int w), (3, .ref o)]) hx hb dL_team_13 hl (by decide) rfl (fun ls hl => ?_)
      refine lv_iconst (v := 1) hx hb dL_team_15 (by decide) ?_
      subst hQ
      refine vx_ret (W.widen (k := 2) (n := 12) (Nat.le_of_ble_eq_true rfl) (Nat.le_of_ble_eq_true rfl) ?_)
      exact W.iret hx hb hr (fun t ht hW => ⟨⟨_, f, rfl, ⟨by rw [hres]; simp [hcode, hc1, xIAE, xISE, xIOB], fun v hv => by rw [hres] at hv; cases hv⟩, by dsimp only; rw [ht, hres]; exact ⟨hP, hO⟩⟩, hS.F ht⟩) hS.2.2 dL_team_16

abbrev rmL_roller : Room := { frames := 8, cells := 2, slots := 12, locals := 128 }
set_option maxHeartbeats 4000000 in
set_option maxRecDepth 100000 in
/-- the law's roller -/
theorem mL_roller (l : Launch) (D : va_G) (cI cT cJ : ClassId) (hl9 : l.stackTraces = false) (sz o : Nat) (f : Nat → Int64) (r tr k1 k2 k3 ts : Nat) (ad : Nat → Nat → Nat) (n : Nat) (hn : n ≤ 6) (tick : Int32) (KF S U V : Nat → Int32) (T : Nat → TV) (x k9 : Int32) : MetHm l D cI cT cJ yL_roller wsL_roller rmL_roller [.ref r, .int x, .int k9, .ref o] ([(r, oR tr ts (ad 0 0) (ad 1 0) (nI n) tick), (tr, oK KF k1 k2 k3), (k1, aI cI 12 S), (k2, aI cI 12 U), (k3, aI cI 12 V), (ts, aQ cT 6 (tq ad n))] ++ blks cI ad T (n + 2)) ([(r, oR tr ts (ad 0 0) (ad 1 0) (nI n) tick), (tr, oK KF k1 k2 k3), (k1, aI cI 12 S), (k2, aI cI 12 U), (k3, aI cI 12 V), (ts, aQ cT 6 (tq ad n))] ++ blks cI ad T (n + 2)) o f hcOA (rRoller x k9 n T) 2 12 sz := by
  refine Met.ofX (vx_ofWH (cc := cL_roller) (maxL := 5) (ret := (some .int)) (by decide) rfl ?_)
  intro p e s m args below meth c s₁ B hml hv
  obtain ⟨⟨⟨hargs, hsz, hP, hR0, hK, hN⟩, hXZ, hXS⟩, hO, ho, hJ, hXN⟩ := hv
  subst hsz
  have hx := B.exec
  have hb := B.bytes
  have hr := B.returns
  have hts := atoms_spec (ws := wsL_roller) B.pre
  have hown : s.vm.findClass RL = some m.cls := findClass_of_methodNamed B.named
  have hlocks := B.notSynchronized
  have htab := vx_table (x := yL_roller) B (hts (Cond.codeWith yL_roller cL_roller 5 (some .int) [(0, 10, 13, 32), (0, 10, 17, 15)]) List.mem_cons_self)
  have he : entryFrame m args 5 = F0 m 0 ((lg_sl [.ref r, .int x, .int k9, .ref o] ++ List.replicate (5 - (lg_sl [.ref r, .int x, .int k9, .ref o]).length) Slot.unset).toArray) [] := by rw [hargs]; exact lg_entry_eq m _ _
  rw [he]
  obtain ⟨A, hAe⟩ : ∃ A, A = (frA (List.map Prod.fst ([(r, oR tr ts (ad 0 0) (ad 1 0) (nI n) tick), (tr, oK KF k1 k2 k3), (k1, aI cI 12 S), (k2, aI cI 12 U), (k3, aI cI 12 V), (ts, aQ cT 6 (tq ad n))] ++ blks cI ad T (n + 2)) ++ [o]) s.heap.size) := ⟨_, rfl⟩
  change W p l e rmL_roller s m args below meth c s.heap [] 0 0 (vx_MQ below (va_Qi (S := Nat → Int64) (fun z f2 => z = hcode hcOA (rRoller x k9 n T) ∧ ∀ v, (rRoller x k9 n T) = .inl v → f2 0 = Int32.toInt64 v) (fun f2 t => va_P D vwCl (hWd (rRoller x k9 n T) ([(r, oR tr ts (ad 0 0) (ad 1 0) (nI n) tick), (tr, oK KF k1 k2 k3), (k1, aI cI 12 S), (k2, aI cI 12 U), (k3, aI cI 12 V), (ts, aQ cT 6 (tq ad n))] ++ blks cI ad T (n + 2)) ([(r, oR tr ts (ad 0 0) (ad 1 0) (nI n) tick), (tr, oK KF k1 k2 k3), (k1, aI cI 12 S), (k2, aI cI 12 U), (k3, aI cI 12 V), (ts, aQ cT 6 (tq ad n))] ++ blks cI ad T (n + 2))) t.heap ∧ va_P D vwCl [(o, aJ cJ f2)] t.heap) (frA (List.map Prod.fst ([(r, oR tr ts (ad 0 0) (ad 1 0) (nI n) tick), (tr, oK KF k1 k2 k3), (k1, aI cI 12 S), (k2, aI cI 12 U), (k3, aI cI 12 V), (ts, aQ cT 6 (tq ad n))] ++ blks cI ad T (n + 2)) ++ [o]) s.heap.size)) (fun _ _ _ => False) args s 2 12 (frA (List.map Prod.fst ([(r, oR tr ts (ad 0 0) (ad 1 0) (nI n) tick), (tr, oK KF k1 k2 k3), (k1, aI cI 12 S), (k2, aI cI 12 U), (k3, aI cI 12 V), (ts, aQ cT 6 (tq ad n))] ++ blks cI ad T (n + 2)) ++ [o]) s.heap.size)) _
  rw [← hAe]
  have hXZ : XZ A s s.heap := by rw [hAe]; exact hXZ
  obtain ⟨Q, hQ⟩ : ∃ Q, Q = vx_MQ below (va_Qi (S := Nat → Int64) (fun z f2 => z = hcode hcOA (rRoller x k9 n T) ∧ ∀ v, (rRoller x k9 n T) = .inl v → f2 0 = Int32.toInt64 v) (fun f2 t => va_P D vwCl (hWd (rRoller x k9 n T) ([(r, oR tr ts (ad 0 0) (ad 1 0) (nI n) tick), (tr, oK KF k1 k2 k3), (k1, aI cI 12 S), (k2, aI cI 12 U), (k3, aI cI 12 V), (ts, aQ cT 6 (tq ad n))] ++ blks cI ad T (n + 2)) ([(r, oR tr ts (ad 0 0) (ad 1 0) (nI n) tick), (tr, oK KF k1 k2 k3), (k1, aI cI 12 S), (k2, aI cI 12 U), (k3, aI cI 12 V), (ts, aQ cT 6 (tq ad n))] ++ blks cI ad T (n + 2))) t.heap ∧ va_P D vwCl [(o, aJ cJ f2)] t.heap) A) (fun _ _ _ => False) args s 2 12 A := ⟨_, rfl⟩
  rw [← hQ]
  have hl := lv_entry [.ref r, .int x, .int k9, .ref o] (n := 5) (Nat.le_of_ble_eq_true rfl)
  generalize (lg_sl [.ref r, .int x, .int k9, .ref o] ++ List.replicate (5 - (lg_sl [.ref r, .int x, .int k9, .ref o]).length) Slot.unset).toArray = ls at hl ⊢
  have hl : lv_has ls 5 [(0, .ref r), (1, .int x), (2, .int k9), (3, .ref o)] := hl
  have hA : ∀ q : Nat, s.heap.size ≤ q → A q := by rw [hAe]; exact fun q h => Or.inr h
  have hAo : A o := by rw [hAe]; exact Or.inl (List.mem_append_right _ (List.mem_singleton.mpr rfl))
  have hD : va_D A ([(r, oR tr ts (ad 0 0) (ad 1 0) (nI n) tick), (tr, oK KF k1 k2 k3), (k1, aI cI 12 S), (k2, aI cI 12 U), (k3, aI cI 12 V), (ts, aQ cT 6 (tq ad n))] ++ blks cI ad T (n + 2)) := sp_D (by rw [List.append_nil] at hN; exact hN) (by rw [hAe]; exact fun q h => Or.inl (List.mem_append_left _ h))
  have hS : va_S A s.heap s.heap [] := va_S.rf
  obtain ⟨H, hH0⟩ : ∃ H, H = s.heap := ⟨_, rfl⟩
  obtain ⟨locs, hlo⟩ : ∃ L : List Loc, L = [] := ⟨_, rfl⟩
  have hP : va_P D vwCl ([(r, oR tr ts (ad 0 0) (ad 1 0) (nI n) tick), (tr, oK KF k1 k2 k3), (k1, aI cI 12 S), (k2, aI cI 12 U), (k3, aI cI 12 V), (ts, aQ cT 6 (tq ad n))] ++ blks cI ad T (n + 2)) H := by rw [hH0]; exact hP
  have hO : va_P D vwCl [(o, aJ cJ f)] H := by rw [hH0]; exact hO
  have hS : va_S A s.heap H locs := by rw [hH0, hlo]; exact hS
  rw [show W p l e rmL_roller s m args below meth c s.heap [] 0 0 Q (F0 m 0 ls []) = W p l e rmL_roller s m args below meth c H locs 0 0 Q (F0 m 0 ls []) by rw [hH0, hlo]]
  clear hH0 hlo
  refine lv_aload_n hx hb dL_roller_0 rfl (lv_at hl 3 rfl) ?_
  refine lv_iconst (v := 0) hx hb dL_roller_1 (by decide) ?_
  refine lv_aload_n hx hb dL_roller_2 rfl (lv_at hl 0 rfl) ?_
  refine lv_iload_n hx hb dL_roller_3 rfl (lv_at hl 1 rfl) ?_
  refine lv_iload_n hx hb dL_roller_4 rfl (lv_at hl 2 rfl) ?_
  refine sp_oI (rest := [.int 0, .ref o]) (As := [.int x, .int k9]) (W1 := ([(r, oR tr ts (ad 0 0) (ad 1 0) (nI n) tick), (tr, oK KF k1 k2 k3), (k1, aI cI 12 S), (k2, aI cI 12 U), (k3, aI cI 12 V), (ts, aQ cT 6 (tq ad n))] ++ blks cI ad T (n + 2))) (ci := 2) ⟨hx, hb, hml, hown, hts⟩ (mX2_roller l D cI cT hl9 H.size r tr k1 k2 k3 ts ad n hn tick KF S U V T x k9) (cwV 2 hts gL_roller_X2_roller rfl rfl rfl (by decide +kernel) ⟨Nat.le_of_ble_eq_true rfl, Nat.le_of_ble_eq_true rfl⟩) hK hXZ hXS hP hO ho hD hS hA (xb_fst rfl cI ad _ _ (n + 2)) rfl rfl rfl rfl hl.1 rfl (Nat.le_of_ble_eq_true rfl) dL_roller_5 ⟨Nat.le_of_ble_eq_true rfl, Nat.le_of_ble_eq_true rfl⟩ (fun z H locs hres hP hO hD hS => ?_) (fun E ce q9 H locs hres hP hO hS h1 h2 h3 => ?_)
  · skip
    refine lv_i2l (v := Int32.toInt64 z) hx hb dL_roller_8 rfl ?_
    refine sp_ost hx hb hJ hP hO (by first | exact ho | (intro h9; exact ho (by rw [← xb_fst rfl cI ad _ _ (n + 2)]; exact h9))) hD hAo hS dL_roller_9 (fun f2 H locs hf2 hP hO hS => ?_)
    refine lv_goto (tgt := 21) hx hb dL_roller_10 (by decide) ?_
    refine lv_iconst (v := 0) hx hb dL_roller_21 (by decide) ?_
    subst hQ
    refine vx_ret (W.widen (k := 2) (n := 12) (Nat.le_of_ble_eq_true rfl) (Nat.le_of_ble_eq_true rfl) ?_)
    exact W.iret hx hb hr (fun t ht hW => ⟨⟨_, f2, rfl, ⟨by rw [hres]; rfl, fun v hv => by rw [hres] at hv; rw [← Sum.inl.inj hv]; exact hf2⟩, by dsimp only; rw [ht, hres]; exact ⟨hP, hO⟩⟩, hS.F ht⟩) hS.2.2 dL_roller_22
  · skip
    have hE : E = xIOB ∨ E = xISE := by
      simp only [rRoller] at hres
      repeat' split at hres
      all_goals first | cases hres; done | exact Or.inl (Sum.inr.inj hres).symm | exact Or.inr (Sum.inr.inj hres).symm
    rcases hE with rfl | rfl
    · skip
      refine vx_catch (own := RL) (name := xIOB) hown [] (⟨0, 10, 13, 32⟩ : ExceptionTableEntry) [(⟨0, 10, 17, 15⟩ : ExceptionTableEntry)] (htab.trans rfl) (fun z hz => absurd hz List.not_mem_nil) rfl (by decide) (hts (.classLink RL 32 xIOB) (by decide +kernel)) (va_Nw.use rfl hXS.2.2.2.1) h1 h2 h3 ?_
      show W p l e _ s m args below meth c H locs _ _ Q (F0 m 13 ls [.ref q9])
      refine lv_astore (lv' := [(4, .ref q9), (0, .ref r), (1, .int x), (2, .int k9), (3, .ref o)]) hx hb dL_roller_13 hl (by decide) rfl (fun ls hl => ?_)
      refine lv_iconst (v := 1) hx hb dL_roller_15 (by decide) ?_
      subst hQ
      refine vx_ret (W.widen (k := 2) (n := 12) (Nat.le_of_ble_eq_true rfl) (Nat.le_of_ble_eq_true rfl) ?_)
      exact W.iret hx hb hr (fun t ht hW => ⟨⟨_, f, rfl, ⟨by rw [hres]; simp [hcode, hcOA, xIAE, xISE, xIOB], fun v hv => by rw [hres] at hv; cases hv⟩, by dsimp only; rw [ht, hres]; exact ⟨hP, hO⟩⟩, hS.F ht⟩) hS.2.2 dL_roller_16
    · skip
      refine vx_catch (own := RL) (name := xISE) hown [(⟨0, 10, 13, 32⟩ : ExceptionTableEntry)] (⟨0, 10, 17, 15⟩ : ExceptionTableEntry) [] (htab.trans rfl) (fun z hz => Or.inr ((fun e => by subst e; exact ⟨by decide, xIOB, (hts (.classLink RL 32 xIOB) (by decide +kernel)), hXN.2.2⟩) (List.mem_singleton.mp hz))) rfl (by decide) (hts (.classLink RL 15 xISE) (by decide +kernel)) (va_Nw.use rfl hXS.2.2.1) h1 h2 h3 ?_
      show W p l e _ s m args below meth c H locs _ _ Q (F0 m 17 ls [.ref q9])
      refine lv_astore (lv' := [(4, .ref q9), (0, .ref r), (1, .int x), (2, .int k9), (3, .ref o)]) hx hb dL_roller_17 hl (by decide) rfl (fun ls hl => ?_)
      refine lv_iconst (v := 2) hx hb dL_roller_19 (by decide) ?_
      subst hQ
      refine vx_ret (W.widen (k := 2) (n := 12) (Nat.le_of_ble_eq_true rfl) (Nat.le_of_ble_eq_true rfl) ?_)
      exact W.iret hx hb hr (fun t ht hW => ⟨⟨_, f, rfl, ⟨by rw [hres]; simp [hcode, hcOA, xIAE, xISE, xIOB], fun v hv => by rw [hres] at hv; cases hv⟩, by dsimp only; rw [ht, hres]; exact ⟨hP, hO⟩⟩, hS.F ht⟩) hS.2.2 dL_roller_20

abbrev rmL_next : Room := { frames := 8, cells := 2, slots := 12, locals := 127 }
set_option maxHeartbeats 4000000 in
set_option maxRecDepth 100000 in
/-- the law's next -/
theorem mL_next (l : Launch) (D : va_G) (cI cT cJ : ClassId) (hl9 : l.stackTraces = false) (sz o : Nat) (f : Nat → Int64) (r tr k1 k2 k3 ts : Nat) (ad : Nat → Nat → Nat) (n : Nat) (hn : n ≤ 6) (tick : Int32) (KF S U V : Nat → Int32) (T : Nat → TV) (hT : cTeams T n) (ns : Nat) (hns : ns ≤ 12) (hk : KF 3 = nI ns) (x w : Int32) : MetHm l D cI cT cJ yL_next wsL_next rmL_next [.ref r, .int x, .int w, .ref o] ([(r, oR tr ts (ad 0 0) (ad 1 0) (nI n) tick), (tr, oK KF k1 k2 k3), (k1, aI cI 12 S), (k2, aI cI 12 U), (k3, aI cI 12 V), (ts, aQ cT 6 (tq ad n))] ++ blks cI ad T (n + 2)) ([(r, oR tr ts (ad 0 0) (ad 1 0) (nI n) tick), (tr, oK KF k1 k2 k3), (k1, aI cI 12 S), (k2, aI cI 12 U), (k3, aI cI 12 V), (ts, aQ cT 6 (tq ad n))] ++ blks cI ad T (n + 2)) o f hc1 (rNext x w S U V ns n T) 2 12 sz := by
  refine Met.ofX (vx_ofWH (cc := cL_next) (maxL := 5) (ret := (some .int)) (by decide) rfl ?_)
  intro p e s m args below meth c s₁ B hml hv
  obtain ⟨⟨⟨hargs, hsz, hP, hR0, hK, hN⟩, hXZ, hXS⟩, hO, ho, hJ, hXN⟩ := hv
  subst hsz
  have hx := B.exec
  have hb := B.bytes
  have hr := B.returns
  have hts := atoms_spec (ws := wsL_next) B.pre
  have hown : s.vm.findClass RL = some m.cls := findClass_of_methodNamed B.named
  have hlocks := B.notSynchronized
  have htab := vx_table (x := yL_next) B (hts (Cond.codeWith yL_next cL_next 5 (some .int) [(0, 10, 13, 32)]) List.mem_cons_self)
  have he : entryFrame m args 5 = F0 m 0 ((lg_sl [.ref r, .int x, .int w, .ref o] ++ List.replicate (5 - (lg_sl [.ref r, .int x, .int w, .ref o]).length) Slot.unset).toArray) [] := by rw [hargs]; exact lg_entry_eq m _ _
  rw [he]
  obtain ⟨A, hAe⟩ : ∃ A, A = (frA (List.map Prod.fst ([(r, oR tr ts (ad 0 0) (ad 1 0) (nI n) tick), (tr, oK KF k1 k2 k3), (k1, aI cI 12 S), (k2, aI cI 12 U), (k3, aI cI 12 V), (ts, aQ cT 6 (tq ad n))] ++ blks cI ad T (n + 2)) ++ [o]) s.heap.size) := ⟨_, rfl⟩
  change W p l e rmL_next s m args below meth c s.heap [] 0 0 (vx_MQ below (va_Qi (S := Nat → Int64) (fun z f2 => z = hcode hc1 (rNext x w S U V ns n T) ∧ ∀ v, (rNext x w S U V ns n T) = .inl v → f2 0 = Int32.toInt64 v) (fun f2 t => va_P D vwCl (hWd (rNext x w S U V ns n T) ([(r, oR tr ts (ad 0 0) (ad 1 0) (nI n) tick), (tr, oK KF k1 k2 k3), (k1, aI cI 12 S), (k2, aI cI 12 U), (k3, aI cI 12 V), (ts, aQ cT 6 (tq ad n))] ++ blks cI ad T (n + 2)) ([(r, oR tr ts (ad 0 0) (ad 1 0) (nI n) tick), (tr, oK KF k1 k2 k3), (k1, aI cI 12 S), (k2, aI cI 12 U), (k3, aI cI 12 V), (ts, aQ cT 6 (tq ad n))] ++ blks cI ad T (n + 2))) t.heap ∧ va_P D vwCl [(o, aJ cJ f2)] t.heap) (frA (List.map Prod.fst ([(r, oR tr ts (ad 0 0) (ad 1 0) (nI n) tick), (tr, oK KF k1 k2 k3), (k1, aI cI 12 S), (k2, aI cI 12 U), (k3, aI cI 12 V), (ts, aQ cT 6 (tq ad n))] ++ blks cI ad T (n + 2)) ++ [o]) s.heap.size)) (fun _ _ _ => False) args s 2 12 (frA (List.map Prod.fst ([(r, oR tr ts (ad 0 0) (ad 1 0) (nI n) tick), (tr, oK KF k1 k2 k3), (k1, aI cI 12 S), (k2, aI cI 12 U), (k3, aI cI 12 V), (ts, aQ cT 6 (tq ad n))] ++ blks cI ad T (n + 2)) ++ [o]) s.heap.size)) _
  rw [← hAe]
  have hXZ : XZ A s s.heap := by rw [hAe]; exact hXZ
  obtain ⟨Q, hQ⟩ : ∃ Q, Q = vx_MQ below (va_Qi (S := Nat → Int64) (fun z f2 => z = hcode hc1 (rNext x w S U V ns n T) ∧ ∀ v, (rNext x w S U V ns n T) = .inl v → f2 0 = Int32.toInt64 v) (fun f2 t => va_P D vwCl (hWd (rNext x w S U V ns n T) ([(r, oR tr ts (ad 0 0) (ad 1 0) (nI n) tick), (tr, oK KF k1 k2 k3), (k1, aI cI 12 S), (k2, aI cI 12 U), (k3, aI cI 12 V), (ts, aQ cT 6 (tq ad n))] ++ blks cI ad T (n + 2)) ([(r, oR tr ts (ad 0 0) (ad 1 0) (nI n) tick), (tr, oK KF k1 k2 k3), (k1, aI cI 12 S), (k2, aI cI 12 U), (k3, aI cI 12 V), (ts, aQ cT 6 (tq ad n))] ++ blks cI ad T (n + 2))) t.heap ∧ va_P D vwCl [(o, aJ cJ f2)] t.heap) A) (fun _ _ _ => False) args s 2 12 A := ⟨_, rfl⟩
  rw [← hQ]
  have hl := lv_entry [.ref r, .int x, .int w, .ref o] (n := 5) (Nat.le_of_ble_eq_true rfl)
  generalize (lg_sl [.ref r, .int x, .int w, .ref o] ++ List.replicate (5 - (lg_sl [.ref r, .int x, .int w, .ref o]).length) Slot.unset).toArray = ls at hl ⊢
  have hl : lv_has ls 5 [(0, .ref r), (1, .int x), (2, .int w), (3, .ref o)] := hl
  have hA : ∀ q : Nat, s.heap.size ≤ q → A q := by rw [hAe]; exact fun q h => Or.inr h
  have hAo : A o := by rw [hAe]; exact Or.inl (List.mem_append_right _ (List.mem_singleton.mpr rfl))
  have hD : va_D A ([(r, oR tr ts (ad 0 0) (ad 1 0) (nI n) tick), (tr, oK KF k1 k2 k3), (k1, aI cI 12 S), (k2, aI cI 12 U), (k3, aI cI 12 V), (ts, aQ cT 6 (tq ad n))] ++ blks cI ad T (n + 2)) := sp_D (by rw [List.append_nil] at hN; exact hN) (by rw [hAe]; exact fun q h => Or.inl (List.mem_append_left _ h))
  have hS : va_S A s.heap s.heap [] := va_S.rf
  obtain ⟨H, hH0⟩ : ∃ H, H = s.heap := ⟨_, rfl⟩
  obtain ⟨locs, hlo⟩ : ∃ L : List Loc, L = [] := ⟨_, rfl⟩
  have hP : va_P D vwCl ([(r, oR tr ts (ad 0 0) (ad 1 0) (nI n) tick), (tr, oK KF k1 k2 k3), (k1, aI cI 12 S), (k2, aI cI 12 U), (k3, aI cI 12 V), (ts, aQ cT 6 (tq ad n))] ++ blks cI ad T (n + 2)) H := by rw [hH0]; exact hP
  have hO : va_P D vwCl [(o, aJ cJ f)] H := by rw [hH0]; exact hO
  have hS : va_S A s.heap H locs := by rw [hH0, hlo]; exact hS
  rw [show W p l e rmL_next s m args below meth c s.heap [] 0 0 Q (F0 m 0 ls []) = W p l e rmL_next s m args below meth c H locs 0 0 Q (F0 m 0 ls []) by rw [hH0, hlo]]
  clear hH0 hlo
  refine lv_aload_n hx hb dL_next_0 rfl (lv_at hl 3 rfl) ?_
  refine lv_iconst (v := 0) hx hb dL_next_1 (by decide) ?_
  refine lv_aload_n hx hb dL_next_2 rfl (lv_at hl 0 rfl) ?_
  refine lv_iload_n hx hb dL_next_3 rfl (lv_at hl 1 rfl) ?_
  refine lv_iload_n hx hb dL_next_4 rfl (lv_at hl 2 rfl) ?_
  refine sp_oI (rest := [.int 0, .ref o]) (As := [.int x, .int w]) (W1 := ([(r, oR tr ts (ad 0 0) (ad 1 0) (nI n) tick), (tr, oK KF k1 k2 k3), (k1, aI cI 12 S), (k2, aI cI 12 U), (k3, aI cI 12 V), (ts, aQ cT 6 (tq ad n))] ++ blks cI ad T (n + 2))) (ci := 2) ⟨hx, hb, hml, hown, hts⟩ (mX2_next l D cI cT hl9 H.size r tr k1 k2 k3 ts ad n hn tick KF S U V T hT ns hns hk x w) (cwV 2 hts gL_next_X2_next rfl rfl rfl (by decide +kernel) ⟨Nat.le_of_ble_eq_true rfl, Nat.le_of_ble_eq_true rfl⟩) hK hXZ hXS hP hO ho hD hS hA (xb_fst rfl cI ad _ _ (n + 2)) rfl rfl rfl rfl hl.1 rfl (Nat.le_of_ble_eq_true rfl) dL_next_5 ⟨Nat.le_of_ble_eq_true rfl, Nat.le_of_ble_eq_true rfl⟩ (fun z H locs hres hP hO hD hS => ?_) (fun E ce q9 H locs hres hP hO hS h1 h2 h3 => ?_)
  · skip
    refine lv_i2l (v := Int32.toInt64 z) hx hb dL_next_8 rfl ?_
    refine sp_ost hx hb hJ hP hO (by first | exact ho | (intro h9; exact ho (by rw [← xb_fst rfl cI ad _ _ (n + 2)]; exact h9))) hD hAo hS dL_next_9 (fun f2 H locs hf2 hP hO hS => ?_)
    refine lv_goto (tgt := 17) hx hb dL_next_10 (by decide) ?_
    refine lv_iconst (v := 0) hx hb dL_next_17 (by decide) ?_
    subst hQ
    refine vx_ret (W.widen (k := 2) (n := 12) (Nat.le_of_ble_eq_true rfl) (Nat.le_of_ble_eq_true rfl) ?_)
    exact W.iret hx hb hr (fun t ht hW => ⟨⟨_, f2, rfl, ⟨by rw [hres]; rfl, fun v hv => by rw [hres] at hv; rw [← Sum.inl.inj hv]; exact hf2⟩, by dsimp only; rw [ht, hres]; exact ⟨hP, hO⟩⟩, hS.F ht⟩) hS.2.2 dL_next_18
  · skip
    have hE : E = xIOB := by
      simp only [rNext] at hres
      repeat' split at hres
      all_goals first | cases hres; done | exact (Sum.inr.inj hres).symm
    subst hE
    · skip
      refine vx_catch (own := RL) (name := xIOB) hown [] (⟨0, 10, 13, 32⟩ : ExceptionTableEntry) [] (htab.trans rfl) (fun z hz => absurd hz List.not_mem_nil) rfl (by decide) (hts (.classLink RL 32 xIOB) (by decide +kernel)) (va_Nw.use rfl hXS.2.2.2.1) h1 h2 h3 ?_
      show W p l e _ s m args below meth c H locs _ _ Q (F0 m 13 ls [.ref q9])
      refine lv_astore (lv' := [(4, .ref q9), (0, .ref r), (1, .int x), (2, .int w), (3, .ref o)]) hx hb dL_next_13 hl (by decide) rfl (fun ls hl => ?_)
      refine lv_iconst (v := 1) hx hb dL_next_15 (by decide) ?_
      subst hQ
      refine vx_ret (W.widen (k := 2) (n := 12) (Nat.le_of_ble_eq_true rfl) (Nat.le_of_ble_eq_true rfl) ?_)
      exact W.iret hx hb hr (fun t ht hW => ⟨⟨_, f, rfl, ⟨by rw [hres]; simp [hcode, hc1, xIAE, xISE, xIOB], fun v hv => by rw [hres] at hv; cases hv⟩, by dsimp only; rw [ht, hres]; exact ⟨hP, hO⟩⟩, hS.F ht⟩) hS.2.2 dL_next_16

abbrev rmL_ranked : Room := { frames := 7, cells := 1, slots := 6, locals := 113 }
set_option maxHeartbeats 4000000 in
set_option maxRecDepth 100000 in
/-- the law's ranked -/
theorem mL_ranked (l : Launch) (D : va_G) (cI cT cJ : ClassId) (hl9 : l.stackTraces = false) (sz o : Nat) (f : Nat → Int64) (r tr k1 k2 k3 ts : Nat) (ad : Nat → Nat → Nat) (n : Nat) (hn : n ≤ 6) (tick : Int32) (KF S U V : Nat → Int32) (T : Nat → TV) (x : Int32) : MetHm l D cI cT cJ yL_ranked wsL_ranked rmL_ranked [.ref r, .int x, .ref o] ([(r, oR tr ts (ad 0 0) (ad 1 0) (nI n) tick), (tr, oK KF k1 k2 k3), (k1, aI cI 12 S), (k2, aI cI 12 U), (k3, aI cI 12 V), (ts, aQ cT 6 (tq ad n))] ++ blks cI ad T (n + 2)) ([(r, oR tr ts (ad 0 0) (ad 1 0) (nI n) tick), (tr, oK KF k1 k2 k3), (k1, aI cI 12 S), (k2, aI cI 12 U), (k3, aI cI 12 V), (ts, aQ cT 6 (tq ad n))] ++ blks cI ad T (n + 2)) o f hc1 (rRanked x T n) 1 6 sz := by
  refine Met.ofX (vx_ofWH (cc := cL_ranked) (maxL := 4) (ret := (some .int)) (by decide) rfl ?_)
  intro p e s m args below meth c s₁ B hml hv
  obtain ⟨⟨⟨hargs, hsz, hP, hR0, hK, hN⟩, hXZ, hXS⟩, hO, ho, hJ, hXN⟩ := hv
  subst hsz
  have hx := B.exec
  have hb := B.bytes
  have hr := B.returns
  have hts := atoms_spec (ws := wsL_ranked) B.pre
  have hown : s.vm.findClass RL = some m.cls := findClass_of_methodNamed B.named
  have hlocks := B.notSynchronized
  have htab := vx_table (x := yL_ranked) B (hts (Cond.codeWith yL_ranked cL_ranked 4 (some .int) [(0, 9, 12, 32)]) List.mem_cons_self)
  have he : entryFrame m args 4 = F0 m 0 ((lg_sl [.ref r, .int x, .ref o] ++ List.replicate (4 - (lg_sl [.ref r, .int x, .ref o]).length) Slot.unset).toArray) [] := by rw [hargs]; exact lg_entry_eq m _ _
  rw [he]
  obtain ⟨A, hAe⟩ : ∃ A, A = (frA (List.map Prod.fst ([(r, oR tr ts (ad 0 0) (ad 1 0) (nI n) tick), (tr, oK KF k1 k2 k3), (k1, aI cI 12 S), (k2, aI cI 12 U), (k3, aI cI 12 V), (ts, aQ cT 6 (tq ad n))] ++ blks cI ad T (n + 2)) ++ [o]) s.heap.size) := ⟨_, rfl⟩
  change W p l e rmL_ranked s m args below meth c s.heap [] 0 0 (vx_MQ below (va_Qi (S := Nat → Int64) (fun z f2 => z = hcode hc1 (rRanked x T n) ∧ ∀ v, (rRanked x T n) = .inl v → f2 0 = Int32.toInt64 v) (fun f2 t => va_P D vwCl (hWd (rRanked x T n) ([(r, oR tr ts (ad 0 0) (ad 1 0) (nI n) tick), (tr, oK KF k1 k2 k3), (k1, aI cI 12 S), (k2, aI cI 12 U), (k3, aI cI 12 V), (ts, aQ cT 6 (tq ad n))] ++ blks cI ad T (n + 2)) ([(r, oR tr ts (ad 0 0) (ad 1 0) (nI n) tick), (tr, oK KF k1 k2 k3), (k1, aI cI 12 S), (k2, aI cI 12 U), (k3, aI cI 12 V), (ts, aQ cT 6 (tq ad n))] ++ blks cI ad T (n + 2))) t.heap ∧ va_P D vwCl [(o, aJ cJ f2)] t.heap) (frA (List.map Prod.fst ([(r, oR tr ts (ad 0 0) (ad 1 0) (nI n) tick), (tr, oK KF k1 k2 k3), (k1, aI cI 12 S), (k2, aI cI 12 U), (k3, aI cI 12 V), (ts, aQ cT 6 (tq ad n))] ++ blks cI ad T (n + 2)) ++ [o]) s.heap.size)) (fun _ _ _ => False) args s 1 6 (frA (List.map Prod.fst ([(r, oR tr ts (ad 0 0) (ad 1 0) (nI n) tick), (tr, oK KF k1 k2 k3), (k1, aI cI 12 S), (k2, aI cI 12 U), (k3, aI cI 12 V), (ts, aQ cT 6 (tq ad n))] ++ blks cI ad T (n + 2)) ++ [o]) s.heap.size)) _
  rw [← hAe]
  have hXZ : XZ A s s.heap := by rw [hAe]; exact hXZ
  obtain ⟨Q, hQ⟩ : ∃ Q, Q = vx_MQ below (va_Qi (S := Nat → Int64) (fun z f2 => z = hcode hc1 (rRanked x T n) ∧ ∀ v, (rRanked x T n) = .inl v → f2 0 = Int32.toInt64 v) (fun f2 t => va_P D vwCl (hWd (rRanked x T n) ([(r, oR tr ts (ad 0 0) (ad 1 0) (nI n) tick), (tr, oK KF k1 k2 k3), (k1, aI cI 12 S), (k2, aI cI 12 U), (k3, aI cI 12 V), (ts, aQ cT 6 (tq ad n))] ++ blks cI ad T (n + 2)) ([(r, oR tr ts (ad 0 0) (ad 1 0) (nI n) tick), (tr, oK KF k1 k2 k3), (k1, aI cI 12 S), (k2, aI cI 12 U), (k3, aI cI 12 V), (ts, aQ cT 6 (tq ad n))] ++ blks cI ad T (n + 2))) t.heap ∧ va_P D vwCl [(o, aJ cJ f2)] t.heap) A) (fun _ _ _ => False) args s 1 6 A := ⟨_, rfl⟩
  rw [← hQ]
  have hl := lv_entry [.ref r, .int x, .ref o] (n := 4) (Nat.le_of_ble_eq_true rfl)
  generalize (lg_sl [.ref r, .int x, .ref o] ++ List.replicate (4 - (lg_sl [.ref r, .int x, .ref o]).length) Slot.unset).toArray = ls at hl ⊢
  have hl : lv_has ls 4 [(0, .ref r), (1, .int x), (2, .ref o)] := hl
  have hA : ∀ q : Nat, s.heap.size ≤ q → A q := by rw [hAe]; exact fun q h => Or.inr h
  have hAo : A o := by rw [hAe]; exact Or.inl (List.mem_append_right _ (List.mem_singleton.mpr rfl))
  have hD : va_D A ([(r, oR tr ts (ad 0 0) (ad 1 0) (nI n) tick), (tr, oK KF k1 k2 k3), (k1, aI cI 12 S), (k2, aI cI 12 U), (k3, aI cI 12 V), (ts, aQ cT 6 (tq ad n))] ++ blks cI ad T (n + 2)) := sp_D (by rw [List.append_nil] at hN; exact hN) (by rw [hAe]; exact fun q h => Or.inl (List.mem_append_left _ h))
  have hS : va_S A s.heap s.heap [] := va_S.rf
  obtain ⟨H, hH0⟩ : ∃ H, H = s.heap := ⟨_, rfl⟩
  obtain ⟨locs, hlo⟩ : ∃ L : List Loc, L = [] := ⟨_, rfl⟩
  have hP : va_P D vwCl ([(r, oR tr ts (ad 0 0) (ad 1 0) (nI n) tick), (tr, oK KF k1 k2 k3), (k1, aI cI 12 S), (k2, aI cI 12 U), (k3, aI cI 12 V), (ts, aQ cT 6 (tq ad n))] ++ blks cI ad T (n + 2)) H := by rw [hH0]; exact hP
  have hO : va_P D vwCl [(o, aJ cJ f)] H := by rw [hH0]; exact hO
  have hS : va_S A s.heap H locs := by rw [hH0, hlo]; exact hS
  rw [show W p l e rmL_ranked s m args below meth c s.heap [] 0 0 Q (F0 m 0 ls []) = W p l e rmL_ranked s m args below meth c H locs 0 0 Q (F0 m 0 ls []) by rw [hH0, hlo]]
  clear hH0 hlo
  refine lv_aload_n hx hb dL_ranked_0 rfl (lv_at hl 2 rfl) ?_
  refine lv_iconst (v := 0) hx hb dL_ranked_1 (by decide) ?_
  refine lv_aload_n hx hb dL_ranked_2 rfl (lv_at hl 0 rfl) ?_
  refine lv_iload_n hx hb dL_ranked_3 rfl (lv_at hl 1 rfl) ?_
  refine sp_oI (rest := [.int 0, .ref o]) (As := [.int x]) (W1 := ([(r, oR tr ts (ad 0 0) (ad 1 0) (nI n) tick), (tr, oK KF k1 k2 k3), (k1, aI cI 12 S), (k2, aI cI 12 U), (k3, aI cI 12 V), (ts, aQ cT 6 (tq ad n))] ++ blks cI ad T (n + 2))) (ci := 2) ⟨hx, hb, hml, hown, hts⟩ (mX2_ranked l D cI cT hl9 H.size r tr k1 k2 k3 ts ad n hn tick KF S U V T x) (cwV 1 hts gL_ranked_X2_ranked rfl rfl rfl (by decide +kernel) ⟨Nat.le_of_ble_eq_true rfl, Nat.le_of_ble_eq_true rfl⟩) hK hXZ hXS hP hO ho hD hS hA (xb_fst rfl cI ad _ _ (n + 2)) rfl rfl rfl rfl hl.1 rfl (Nat.le_of_ble_eq_true rfl) dL_ranked_4 ⟨Nat.le_of_ble_eq_true rfl, Nat.le_of_ble_eq_true rfl⟩ (fun z H locs hres hP hO hD hS => ?_) (fun E ce q9 H locs hres hP hO hS h1 h2 h3 => ?_)
  · skip
    refine lv_i2l (v := Int32.toInt64 z) hx hb dL_ranked_7 rfl ?_
    refine sp_ost hx hb hJ hP hO (by first | exact ho | (intro h9; exact ho (by rw [← xb_fst rfl cI ad _ _ (n + 2)]; exact h9))) hD hAo hS dL_ranked_8 (fun f2 H locs hf2 hP hO hS => ?_)
    refine lv_goto (tgt := 15) hx hb dL_ranked_9 (by decide) ?_
    refine lv_iconst (v := 0) hx hb dL_ranked_15 (by decide) ?_
    subst hQ
    refine vx_ret (W.widen (k := 1) (n := 6) (Nat.le_of_ble_eq_true rfl) (Nat.le_of_ble_eq_true rfl) ?_)
    exact W.iret hx hb hr (fun t ht hW => ⟨⟨_, f2, rfl, ⟨by rw [hres]; rfl, fun v hv => by rw [hres] at hv; rw [← Sum.inl.inj hv]; exact hf2⟩, by dsimp only; rw [ht, hres]; exact ⟨hP, hO⟩⟩, hS.F ht⟩) hS.2.2 dL_ranked_16
  · skip
    have hE : E = xIOB := by
      simp only [rRanked] at hres
      repeat' split at hres
      all_goals first | cases hres; done | exact (Sum.inr.inj hres).symm
    subst hE
    · skip
      refine vx_catch (own := RL) (name := xIOB) hown [] (⟨0, 9, 12, 32⟩ : ExceptionTableEntry) [] (htab.trans rfl) (fun z hz => absurd hz List.not_mem_nil) rfl (by decide) (hts (.classLink RL 32 xIOB) (by decide +kernel)) (va_Nw.use rfl hXS.2.2.2.1) h1 h2 h3 ?_
      show W p l e _ s m args below meth c H locs _ _ Q (F0 m 12 ls [.ref q9])
      refine lv_astore_n (lv' := [(3, .ref q9), (0, .ref r), (1, .int x), (2, .ref o)]) hx hb dL_ranked_12 rfl hl (by decide) rfl (fun ls hl => ?_)
      refine lv_iconst (v := 1) hx hb dL_ranked_13 (by decide) ?_
      subst hQ
      refine vx_ret (W.widen (k := 1) (n := 6) (Nat.le_of_ble_eq_true rfl) (Nat.le_of_ble_eq_true rfl) ?_)
      exact W.iret hx hb hr (fun t ht hW => ⟨⟨_, f, rfl, ⟨by rw [hres]; simp [hcode, hc1, xIAE, xISE, xIOB], fun v hv => by rw [hres] at hv; cases hv⟩, by dsimp only; rw [ht, hres]; exact ⟨hP, hO⟩⟩, hS.F ht⟩) hS.2.2 dL_ranked_14

abbrev rmL_foresee : Room := { frames := 8, cells := 2, slots := 12, locals := 169 }
set_option maxHeartbeats 4000000 in
set_option maxRecDepth 100000 in
/-- the law's foresee -/
theorem mL_foresee (l : Launch) (D : va_G) (cI cT cJ : ClassId) (hl9 : l.stackTraces = false) (sz o : Nat) (f : Nat → Int64) (r tr k1 k2 k3 ts : Nat) (ad : Nat → Nat → Nat) (n : Nat) (hn : n ≤ 6) (tick : Int32) (KF S U V : Nat → Int32) (T : Nat → TV) (hT : cTeams T n) (ns : Nat) (hns : ns ≤ 12) (hk : KF 3 = nI ns) (x y9 w : Int32) : MetHm l D cI cT cJ yL_foresee wsL_foresee rmL_foresee [.ref r, .int x, .int y9, .int w, .ref o] ([(r, oR tr ts (ad 0 0) (ad 1 0) (nI n) tick), (tr, oK KF k1 k2 k3), (k1, aI cI 12 S), (k2, aI cI 12 U), (k3, aI cI 12 V), (ts, aQ cT 6 (tq ad n))] ++ blks cI ad T (n + 2)) ([(r, oR tr ts (ad 0 0) (ad 1 0) (nI n) tick), (tr, oK KF k1 k2 k3), (k1, aI cI 12 S), (k2, aI cI 12 U), (k3, aI cI 12 V), (ts, aQ cT 6 (tq ad n))] ++ blks cI ad (cSee x y9 w S U V ns (KF 4) tick T n) (n + 2)) o f hcOA (rSee x y9 w S U V ns (KF 4) tick T n) 2 12 sz := by
  refine Met.ofX (vx_ofWH (cc := cL_foresee) (maxL := 6) (ret := (some .int)) (by decide) rfl ?_)
  intro p e s m args below meth c s₁ B hml hv
  obtain ⟨⟨⟨hargs, hsz, hP, hR0, hK, hN⟩, hXZ, hXS⟩, hO, ho, hJ, hXN⟩ := hv
  subst hsz
  have hx := B.exec
  have hb := B.bytes
  have hr := B.returns
  have hts := atoms_spec (ws := wsL_foresee) B.pre
  have hown : s.vm.findClass RL = some m.cls := findClass_of_methodNamed B.named
  have hlocks := B.notSynchronized
  have htab := vx_table (x := yL_foresee) B (hts (Cond.codeWith yL_foresee cL_foresee 6 (some .int) [(0, 12, 15, 32), (0, 12, 19, 13)]) List.mem_cons_self)
  have he : entryFrame m args 6 = F0 m 0 ((lg_sl [.ref r, .int x, .int y9, .int w, .ref o] ++ List.replicate (6 - (lg_sl [.ref r, .int x, .int y9, .int w, .ref o]).length) Slot.unset).toArray) [] := by rw [hargs]; exact lg_entry_eq m _ _
  rw [he]
  obtain ⟨A, hAe⟩ : ∃ A, A = (frA (List.map Prod.fst ([(r, oR tr ts (ad 0 0) (ad 1 0) (nI n) tick), (tr, oK KF k1 k2 k3), (k1, aI cI 12 S), (k2, aI cI 12 U), (k3, aI cI 12 V), (ts, aQ cT 6 (tq ad n))] ++ blks cI ad T (n + 2)) ++ [o]) s.heap.size) := ⟨_, rfl⟩
  change W p l e rmL_foresee s m args below meth c s.heap [] 0 0 (vx_MQ below (va_Qi (S := Nat → Int64) (fun z f2 => z = hcode hcOA (rSee x y9 w S U V ns (KF 4) tick T n) ∧ ∀ v, (rSee x y9 w S U V ns (KF 4) tick T n) = .inl v → f2 0 = Int32.toInt64 v) (fun f2 t => va_P D vwCl (hWd (rSee x y9 w S U V ns (KF 4) tick T n) ([(r, oR tr ts (ad 0 0) (ad 1 0) (nI n) tick), (tr, oK KF k1 k2 k3), (k1, aI cI 12 S), (k2, aI cI 12 U), (k3, aI cI 12 V), (ts, aQ cT 6 (tq ad n))] ++ blks cI ad T (n + 2)) ([(r, oR tr ts (ad 0 0) (ad 1 0) (nI n) tick), (tr, oK KF k1 k2 k3), (k1, aI cI 12 S), (k2, aI cI 12 U), (k3, aI cI 12 V), (ts, aQ cT 6 (tq ad n))] ++ blks cI ad (cSee x y9 w S U V ns (KF 4) tick T n) (n + 2))) t.heap ∧ va_P D vwCl [(o, aJ cJ f2)] t.heap) (frA (List.map Prod.fst ([(r, oR tr ts (ad 0 0) (ad 1 0) (nI n) tick), (tr, oK KF k1 k2 k3), (k1, aI cI 12 S), (k2, aI cI 12 U), (k3, aI cI 12 V), (ts, aQ cT 6 (tq ad n))] ++ blks cI ad T (n + 2)) ++ [o]) s.heap.size)) (fun _ _ _ => False) args s 2 12 (frA (List.map Prod.fst ([(r, oR tr ts (ad 0 0) (ad 1 0) (nI n) tick), (tr, oK KF k1 k2 k3), (k1, aI cI 12 S), (k2, aI cI 12 U), (k3, aI cI 12 V), (ts, aQ cT 6 (tq ad n))] ++ blks cI ad T (n + 2)) ++ [o]) s.heap.size)) _
  rw [← hAe]
  have hXZ : XZ A s s.heap := by rw [hAe]; exact hXZ
  obtain ⟨Q, hQ⟩ : ∃ Q, Q = vx_MQ below (va_Qi (S := Nat → Int64) (fun z f2 => z = hcode hcOA (rSee x y9 w S U V ns (KF 4) tick T n) ∧ ∀ v, (rSee x y9 w S U V ns (KF 4) tick T n) = .inl v → f2 0 = Int32.toInt64 v) (fun f2 t => va_P D vwCl (hWd (rSee x y9 w S U V ns (KF 4) tick T n) ([(r, oR tr ts (ad 0 0) (ad 1 0) (nI n) tick), (tr, oK KF k1 k2 k3), (k1, aI cI 12 S), (k2, aI cI 12 U), (k3, aI cI 12 V), (ts, aQ cT 6 (tq ad n))] ++ blks cI ad T (n + 2)) ([(r, oR tr ts (ad 0 0) (ad 1 0) (nI n) tick), (tr, oK KF k1 k2 k3), (k1, aI cI 12 S), (k2, aI cI 12 U), (k3, aI cI 12 V), (ts, aQ cT 6 (tq ad n))] ++ blks cI ad (cSee x y9 w S U V ns (KF 4) tick T n) (n + 2))) t.heap ∧ va_P D vwCl [(o, aJ cJ f2)] t.heap) A) (fun _ _ _ => False) args s 2 12 A := ⟨_, rfl⟩
  rw [← hQ]
  have hl := lv_entry [.ref r, .int x, .int y9, .int w, .ref o] (n := 6) (Nat.le_of_ble_eq_true rfl)
  generalize (lg_sl [.ref r, .int x, .int y9, .int w, .ref o] ++ List.replicate (6 - (lg_sl [.ref r, .int x, .int y9, .int w, .ref o]).length) Slot.unset).toArray = ls at hl ⊢
  have hl : lv_has ls 6 [(0, .ref r), (1, .int x), (2, .int y9), (3, .int w), (4, .ref o)] := hl
  have hA : ∀ q : Nat, s.heap.size ≤ q → A q := by rw [hAe]; exact fun q h => Or.inr h
  have hAo : A o := by rw [hAe]; exact Or.inl (List.mem_append_right _ (List.mem_singleton.mpr rfl))
  have hD : va_D A ([(r, oR tr ts (ad 0 0) (ad 1 0) (nI n) tick), (tr, oK KF k1 k2 k3), (k1, aI cI 12 S), (k2, aI cI 12 U), (k3, aI cI 12 V), (ts, aQ cT 6 (tq ad n))] ++ blks cI ad T (n + 2)) := sp_D (by rw [List.append_nil] at hN; exact hN) (by rw [hAe]; exact fun q h => Or.inl (List.mem_append_left _ h))
  have hS : va_S A s.heap s.heap [] := va_S.rf
  obtain ⟨H, hH0⟩ : ∃ H, H = s.heap := ⟨_, rfl⟩
  obtain ⟨locs, hlo⟩ : ∃ L : List Loc, L = [] := ⟨_, rfl⟩
  have hP : va_P D vwCl ([(r, oR tr ts (ad 0 0) (ad 1 0) (nI n) tick), (tr, oK KF k1 k2 k3), (k1, aI cI 12 S), (k2, aI cI 12 U), (k3, aI cI 12 V), (ts, aQ cT 6 (tq ad n))] ++ blks cI ad T (n + 2)) H := by rw [hH0]; exact hP
  have hO : va_P D vwCl [(o, aJ cJ f)] H := by rw [hH0]; exact hO
  have hS : va_S A s.heap H locs := by rw [hH0, hlo]; exact hS
  rw [show W p l e rmL_foresee s m args below meth c s.heap [] 0 0 Q (F0 m 0 ls []) = W p l e rmL_foresee s m args below meth c H locs 0 0 Q (F0 m 0 ls []) by rw [hH0, hlo]]
  clear hH0 hlo
  refine lv_aload hx hb dL_foresee_0 (lv_at hl 4 rfl) ?_
  refine lv_iconst (v := 0) hx hb dL_foresee_2 (by decide) ?_
  refine lv_aload_n hx hb dL_foresee_3 rfl (lv_at hl 0 rfl) ?_
  refine lv_iload_n hx hb dL_foresee_4 rfl (lv_at hl 1 rfl) ?_
  refine lv_iload_n hx hb dL_foresee_5 rfl (lv_at hl 2 rfl) ?_
  refine lv_iload_n hx hb dL_foresee_6 rfl (lv_at hl 3 rfl) ?_
  refine sp_oI (rest := [.int 0, .ref o]) (As := [.int x, .int y9, .int w]) (W1 := ([(r, oR tr ts (ad 0 0) (ad 1 0) (nI n) tick), (tr, oK KF k1 k2 k3), (k1, aI cI 12 S), (k2, aI cI 12 U), (k3, aI cI 12 V), (ts, aQ cT 6 (tq ad n))] ++ blks cI ad (cSee x y9 w S U V ns (KF 4) tick T n) (n + 2))) (ci := 2) ⟨hx, hb, hml, hown, hts⟩ (mX2_foresee l D cI cT hl9 H.size r tr k1 k2 k3 ts ad n hn tick KF S U V T hT ns hns hk x y9 w) (cwV 3 hts gL_foresee_X2_foresee rfl rfl rfl (by decide +kernel) ⟨Nat.le_of_ble_eq_true rfl, Nat.le_of_ble_eq_true rfl⟩) hK hXZ hXS hP hO ho hD hS hA (xb_fst rfl cI ad _ _ (n + 2)) rfl rfl rfl rfl hl.1 rfl (Nat.le_of_ble_eq_true rfl) dL_foresee_7 ⟨Nat.le_of_ble_eq_true rfl, Nat.le_of_ble_eq_true rfl⟩ (fun z H locs hres hP hO hD hS => ?_) (fun E ce q9 H locs hres hP hO hS h1 h2 h3 => ?_)
  · skip
    refine lv_i2l (v := Int32.toInt64 z) hx hb dL_foresee_10 rfl ?_
    refine sp_ost hx hb hJ hP hO (by first | exact ho | (intro h9; exact ho (by rw [← xb_fst rfl cI ad _ _ (n + 2)]; exact h9))) hD hAo hS dL_foresee_11 (fun f2 H locs hf2 hP hO hS => ?_)
    refine lv_goto (tgt := 23) hx hb dL_foresee_12 (by decide) ?_
    refine lv_iconst (v := 0) hx hb dL_foresee_23 (by decide) ?_
    subst hQ
    refine vx_ret (W.widen (k := 2) (n := 12) (Nat.le_of_ble_eq_true rfl) (Nat.le_of_ble_eq_true rfl) ?_)
    exact W.iret hx hb hr (fun t ht hW => ⟨⟨_, f2, rfl, ⟨by rw [hres]; rfl, fun v hv => by rw [hres] at hv; rw [← Sum.inl.inj hv]; exact hf2⟩, by dsimp only; rw [ht, hres]; exact ⟨hP, hO⟩⟩, hS.F ht⟩) hS.2.2 dL_foresee_24
  · skip
    have hE : E = xIOB ∨ E = xIAE := by
      simp only [rSee] at hres
      repeat' split at hres
      all_goals first | cases hres; done | exact Or.inl (Sum.inr.inj hres).symm | exact Or.inr (Sum.inr.inj hres).symm
    rcases hE with rfl | rfl
    · skip
      refine vx_catch (own := RL) (name := xIOB) hown [] (⟨0, 12, 15, 32⟩ : ExceptionTableEntry) [(⟨0, 12, 19, 13⟩ : ExceptionTableEntry)] (htab.trans rfl) (fun z hz => absurd hz List.not_mem_nil) rfl (by decide) (hts (.classLink RL 32 xIOB) (by decide +kernel)) (va_Nw.use rfl hXS.2.2.2.1) h1 h2 h3 ?_
      show W p l e _ s m args below meth c H locs _ _ Q (F0 m 15 ls [.ref q9])
      refine lv_astore (lv' := [(5, .ref q9), (0, .ref r), (1, .int x), (2, .int y9), (3, .int w), (4, .ref o)]) hx hb dL_foresee_15 hl (by decide) rfl (fun ls hl => ?_)
      refine lv_iconst (v := 1) hx hb dL_foresee_17 (by decide) ?_
      subst hQ
      refine vx_ret (W.widen (k := 2) (n := 12) (Nat.le_of_ble_eq_true rfl) (Nat.le_of_ble_eq_true rfl) ?_)
      exact W.iret hx hb hr (fun t ht hW => ⟨⟨_, f, rfl, ⟨by rw [hres]; simp [hcode, hcOA, xIAE, xISE, xIOB], fun v hv => by rw [hres] at hv; cases hv⟩, by dsimp only; rw [ht, hres]; exact ⟨hP, hO⟩⟩, hS.F ht⟩) hS.2.2 dL_foresee_18
    · skip
      refine vx_catch (own := RL) (name := xIAE) hown [(⟨0, 12, 15, 32⟩ : ExceptionTableEntry)] (⟨0, 12, 19, 13⟩ : ExceptionTableEntry) [] (htab.trans rfl) (fun z hz => Or.inr ((fun e => by subst e; exact ⟨by decide, xIOB, (hts (.classLink RL 32 xIOB) (by decide +kernel)), hXN.2.1⟩) (List.mem_singleton.mp hz))) rfl (by decide) (hts (.classLink RL 13 xIAE) (by decide +kernel)) (va_Nw.use rfl hXS.2.1) h1 h2 h3 ?_
      show W p l e _ s m args below meth c H locs _ _ Q (F0 m 19 ls [.ref q9])
      refine lv_astore (lv' := [(5, .ref q9), (0, .ref r), (1, .int x), (2, .int y9), (3, .int w), (4, .ref o)]) hx hb dL_foresee_19 hl (by decide) rfl (fun ls hl => ?_)
      refine lv_iconst (v := 2) hx hb dL_foresee_21 (by decide) ?_
      subst hQ
      refine vx_ret (W.widen (k := 2) (n := 12) (Nat.le_of_ble_eq_true rfl) (Nat.le_of_ble_eq_true rfl) ?_)
      exact W.iret hx hb hr (fun t ht hW => ⟨⟨_, f, rfl, ⟨by rw [hres]; simp [hcode, hcOA, xIAE, xISE, xIOB], fun v hv => by rw [hres] at hv; cases hv⟩, by dsimp only; rw [ht, hres]; exact ⟨hP, hO⟩⟩, hS.F ht⟩) hS.2.2 dL_foresee_22

abbrev rmL_advise : Room := { frames := 8, cells := 2, slots := 12, locals := 145 }
set_option maxHeartbeats 4000000 in
set_option maxRecDepth 100000 in
/-- the law's advise -/
theorem mL_advise (l : Launch) (D : va_G) (cI cT cJ : ClassId) (hl9 : l.stackTraces = false) (sz o : Nat) (f : Nat → Int64) (r tr k1 k2 k3 ts : Nat) (ad : Nat → Nat → Nat) (n : Nat) (hn : n ≤ 6) (tick : Int32) (KF S U V : Nat → Int32) (T : Nat → TV) (hT : cTeams T n) (ns : Nat) (hns : ns ≤ 12) (hk : KF 3 = nI ns) (x y9 : Int32) : MetHm l D cI cT cJ yL_advise wsL_advise rmL_advise [.ref r, .int x, .int y9, .ref o] ([(r, oR tr ts (ad 0 0) (ad 1 0) (nI n) tick), (tr, oK KF k1 k2 k3), (k1, aI cI 12 S), (k2, aI cI 12 U), (k3, aI cI 12 V), (ts, aQ cT 6 (tq ad n))] ++ blks cI ad T (n + 2)) ([(r, oR tr ts (ad 0 0) (ad 1 0) (nI n) tick), (tr, oK KF k1 k2 k3), (k1, aI cI 12 S), (k2, aI cI 12 U), (k3, aI cI 12 V), (ts, aQ cT 6 (tq ad n))] ++ blks cI ad (setT T 0 (cAdvT S U V ns (KF 4) tick T (x.toNatClampNeg + 2) y9.toNatClampNeg 11)) (n + 2)) o f hcOA (rAdv x y9 S U V ns (KF 4) tick T n) 2 12 sz := by
  refine Met.ofX (vx_ofWH (cc := cL_advise) (maxL := 5) (ret := (some .int)) (by decide) rfl ?_)
  intro p e s m args below meth c s₁ B hml hv
  obtain ⟨⟨⟨hargs, hsz, hP, hR0, hK, hN⟩, hXZ, hXS⟩, hO, ho, hJ, hXN⟩ := hv
  subst hsz
  have hx := B.exec
  have hb := B.bytes
  have hr := B.returns
  have hts := atoms_spec (ws := wsL_advise) B.pre
  have hown : s.vm.findClass RL = some m.cls := findClass_of_methodNamed B.named
  have hlocks := B.notSynchronized
  have htab := vx_table (x := yL_advise) B (hts (Cond.codeWith yL_advise cL_advise 5 (some .int) [(0, 10, 13, 32), (0, 10, 17, 13)]) List.mem_cons_self)
  have he : entryFrame m args 5 = F0 m 0 ((lg_sl [.ref r, .int x, .int y9, .ref o] ++ List.replicate (5 - (lg_sl [.ref r, .int x, .int y9, .ref o]).length) Slot.unset).toArray) [] := by rw [hargs]; exact lg_entry_eq m _ _
  rw [he]
  obtain ⟨A, hAe⟩ : ∃ A, A = (frA (List.map Prod.fst ([(r, oR tr ts (ad 0 0) (ad 1 0) (nI n) tick), (tr, oK KF k1 k2 k3), (k1, aI cI 12 S), (k2, aI cI 12 U), (k3, aI cI 12 V), (ts, aQ cT 6 (tq ad n))] ++ blks cI ad T (n + 2)) ++ [o]) s.heap.size) := ⟨_, rfl⟩
  change W p l e rmL_advise s m args below meth c s.heap [] 0 0 (vx_MQ below (va_Qi (S := Nat → Int64) (fun z f2 => z = hcode hcOA (rAdv x y9 S U V ns (KF 4) tick T n) ∧ ∀ v, (rAdv x y9 S U V ns (KF 4) tick T n) = .inl v → f2 0 = Int32.toInt64 v) (fun f2 t => va_P D vwCl (hWd (rAdv x y9 S U V ns (KF 4) tick T n) ([(r, oR tr ts (ad 0 0) (ad 1 0) (nI n) tick), (tr, oK KF k1 k2 k3), (k1, aI cI 12 S), (k2, aI cI 12 U), (k3, aI cI 12 V), (ts, aQ cT 6 (tq ad n))] ++ blks cI ad T (n + 2)) ([(r, oR tr ts (ad 0 0) (ad 1 0) (nI n) tick), (tr, oK KF k1 k2 k3), (k1, aI cI 12 S), (k2, aI cI 12 U), (k3, aI cI 12 V), (ts, aQ cT 6 (tq ad n))] ++ blks cI ad (setT T 0 (cAdvT S U V ns (KF 4) tick T (x.toNatClampNeg + 2) y9.toNatClampNeg 11)) (n + 2))) t.heap ∧ va_P D vwCl [(o, aJ cJ f2)] t.heap) (frA (List.map Prod.fst ([(r, oR tr ts (ad 0 0) (ad 1 0) (nI n) tick), (tr, oK KF k1 k2 k3), (k1, aI cI 12 S), (k2, aI cI 12 U), (k3, aI cI 12 V), (ts, aQ cT 6 (tq ad n))] ++ blks cI ad T (n + 2)) ++ [o]) s.heap.size)) (fun _ _ _ => False) args s 2 12 (frA (List.map Prod.fst ([(r, oR tr ts (ad 0 0) (ad 1 0) (nI n) tick), (tr, oK KF k1 k2 k3), (k1, aI cI 12 S), (k2, aI cI 12 U), (k3, aI cI 12 V), (ts, aQ cT 6 (tq ad n))] ++ blks cI ad T (n + 2)) ++ [o]) s.heap.size)) _
  rw [← hAe]
  have hXZ : XZ A s s.heap := by rw [hAe]; exact hXZ
  obtain ⟨Q, hQ⟩ : ∃ Q, Q = vx_MQ below (va_Qi (S := Nat → Int64) (fun z f2 => z = hcode hcOA (rAdv x y9 S U V ns (KF 4) tick T n) ∧ ∀ v, (rAdv x y9 S U V ns (KF 4) tick T n) = .inl v → f2 0 = Int32.toInt64 v) (fun f2 t => va_P D vwCl (hWd (rAdv x y9 S U V ns (KF 4) tick T n) ([(r, oR tr ts (ad 0 0) (ad 1 0) (nI n) tick), (tr, oK KF k1 k2 k3), (k1, aI cI 12 S), (k2, aI cI 12 U), (k3, aI cI 12 V), (ts, aQ cT 6 (tq ad n))] ++ blks cI ad T (n + 2)) ([(r, oR tr ts (ad 0 0) (ad 1 0) (nI n) tick), (tr, oK KF k1 k2 k3), (k1, aI cI 12 S), (k2, aI cI 12 U), (k3, aI cI 12 V), (ts, aQ cT 6 (tq ad n))] ++ blks cI ad (setT T 0 (cAdvT S U V ns (KF 4) tick T (x.toNatClampNeg + 2) y9.toNatClampNeg 11)) (n + 2))) t.heap ∧ va_P D vwCl [(o, aJ cJ f2)] t.heap) A) (fun _ _ _ => False) args s 2 12 A := ⟨_, rfl⟩
  rw [← hQ]
  have hl := lv_entry [.ref r, .int x, .int y9, .ref o] (n := 5) (Nat.le_of_ble_eq_true rfl)
  generalize (lg_sl [.ref r, .int x, .int y9, .ref o] ++ List.replicate (5 - (lg_sl [.ref r, .int x, .int y9, .ref o]).length) Slot.unset).toArray = ls at hl ⊢
  have hl : lv_has ls 5 [(0, .ref r), (1, .int x), (2, .int y9), (3, .ref o)] := hl
  have hA : ∀ q : Nat, s.heap.size ≤ q → A q := by rw [hAe]; exact fun q h => Or.inr h
  have hAo : A o := by rw [hAe]; exact Or.inl (List.mem_append_right _ (List.mem_singleton.mpr rfl))
  have hD : va_D A ([(r, oR tr ts (ad 0 0) (ad 1 0) (nI n) tick), (tr, oK KF k1 k2 k3), (k1, aI cI 12 S), (k2, aI cI 12 U), (k3, aI cI 12 V), (ts, aQ cT 6 (tq ad n))] ++ blks cI ad T (n + 2)) := sp_D (by rw [List.append_nil] at hN; exact hN) (by rw [hAe]; exact fun q h => Or.inl (List.mem_append_left _ h))
  have hS : va_S A s.heap s.heap [] := va_S.rf
  obtain ⟨H, hH0⟩ : ∃ H, H = s.heap := ⟨_, rfl⟩
  obtain ⟨locs, hlo⟩ : ∃ L : List Loc, L = [] := ⟨_, rfl⟩
  have hP : va_P D vwCl ([(r, oR tr ts (ad 0 0) (ad 1 0) (nI n) tick), (tr, oK KF k1 k2 k3), (k1, aI cI 12 S), (k2, aI cI 12 U), (k3, aI cI 12 V), (ts, aQ cT 6 (tq ad n))] ++ blks cI ad T (n + 2)) H := by rw [hH0]; exact hP
  have hO : va_P D vwCl [(o, aJ cJ f)] H := by rw [hH0]; exact hO
  have hS : va_S A s.heap H locs := by rw [hH0, hlo]; exact hS
  rw [show W p l e rmL_advise s m args below meth c s.heap [] 0 0 Q (F0 m 0 ls []) = W p l e rmL_advise s m args below meth c H locs 0 0 Q (F0 m 0 ls []) by rw [hH0, hlo]]
  clear hH0 hlo
  refine lv_aload_n hx hb dL_advise_0 rfl (lv_at hl 3 rfl) ?_
  refine lv_iconst (v := 0) hx hb dL_advise_1 (by decide) ?_
  refine lv_aload_n hx hb dL_advise_2 rfl (lv_at hl 0 rfl) ?_
  refine lv_iload_n hx hb dL_advise_3 rfl (lv_at hl 1 rfl) ?_
  refine lv_iload_n hx hb dL_advise_4 rfl (lv_at hl 2 rfl) ?_
  refine sp_oI (rest := [.int 0, .ref o]) (As := [.int x, .int y9]) (W1 := ([(r, oR tr ts (ad 0 0) (ad 1 0) (nI n) tick), (tr, oK KF k1 k2 k3), (k1, aI cI 12 S), (k2, aI cI 12 U), (k3, aI cI 12 V), (ts, aQ cT 6 (tq ad n))] ++ blks cI ad (setT T 0 (cAdvT S U V ns (KF 4) tick T (x.toNatClampNeg + 2) y9.toNatClampNeg 11)) (n + 2))) (ci := 2) ⟨hx, hb, hml, hown, hts⟩ (mX2_advise l D cI cT hl9 H.size r tr k1 k2 k3 ts ad n hn tick KF S U V T hT ns hns hk x y9) (cwV 2 hts gL_advise_X2_advise rfl rfl rfl (by decide +kernel) ⟨Nat.le_of_ble_eq_true rfl, Nat.le_of_ble_eq_true rfl⟩) hK hXZ hXS hP hO ho hD hS hA (xb_fst rfl cI ad _ _ (n + 2)) rfl rfl rfl rfl hl.1 rfl (Nat.le_of_ble_eq_true rfl) dL_advise_5 ⟨Nat.le_of_ble_eq_true rfl, Nat.le_of_ble_eq_true rfl⟩ (fun z H locs hres hP hO hD hS => ?_) (fun E ce q9 H locs hres hP hO hS h1 h2 h3 => ?_)
  · skip
    refine lv_i2l (v := Int32.toInt64 z) hx hb dL_advise_8 rfl ?_
    refine sp_ost hx hb hJ hP hO (by first | exact ho | (intro h9; exact ho (by rw [← xb_fst rfl cI ad _ _ (n + 2)]; exact h9))) hD hAo hS dL_advise_9 (fun f2 H locs hf2 hP hO hS => ?_)
    refine lv_goto (tgt := 21) hx hb dL_advise_10 (by decide) ?_
    refine lv_iconst (v := 0) hx hb dL_advise_21 (by decide) ?_
    subst hQ
    refine vx_ret (W.widen (k := 2) (n := 12) (Nat.le_of_ble_eq_true rfl) (Nat.le_of_ble_eq_true rfl) ?_)
    exact W.iret hx hb hr (fun t ht hW => ⟨⟨_, f2, rfl, ⟨by rw [hres]; rfl, fun v hv => by rw [hres] at hv; rw [← Sum.inl.inj hv]; exact hf2⟩, by dsimp only; rw [ht, hres]; exact ⟨hP, hO⟩⟩, hS.F ht⟩) hS.2.2 dL_advise_22
  · skip
    have hE : E = xIOB ∨ E = xIAE := by
      simp only [rAdv] at hres
      repeat' split at hres
      all_goals first | cases hres; done | exact Or.inl (Sum.inr.inj hres).symm | exact Or.inr (Sum.inr.inj hres).symm
    rcases hE with rfl | rfl
    · skip
      refine vx_catch (own := RL) (name := xIOB) hown [] (⟨0, 10, 13, 32⟩ : ExceptionTableEntry) [(⟨0, 10, 17, 13⟩ : ExceptionTableEntry)] (htab.trans rfl) (fun z hz => absurd hz List.not_mem_nil) rfl (by decide) (hts (.classLink RL 32 xIOB) (by decide +kernel)) (va_Nw.use rfl hXS.2.2.2.1) h1 h2 h3 ?_
      show W p l e _ s m args below meth c H locs _ _ Q (F0 m 13 ls [.ref q9])
      refine lv_astore (lv' := [(4, .ref q9), (0, .ref r), (1, .int x), (2, .int y9), (3, .ref o)]) hx hb dL_advise_13 hl (by decide) rfl (fun ls hl => ?_)
      refine lv_iconst (v := 1) hx hb dL_advise_15 (by decide) ?_
      subst hQ
      refine vx_ret (W.widen (k := 2) (n := 12) (Nat.le_of_ble_eq_true rfl) (Nat.le_of_ble_eq_true rfl) ?_)
      exact W.iret hx hb hr (fun t ht hW => ⟨⟨_, f, rfl, ⟨by rw [hres]; simp [hcode, hcOA, xIAE, xISE, xIOB], fun v hv => by rw [hres] at hv; cases hv⟩, by dsimp only; rw [ht, hres]; exact ⟨hP, hO⟩⟩, hS.F ht⟩) hS.2.2 dL_advise_16
    · skip
      refine vx_catch (own := RL) (name := xIAE) hown [(⟨0, 10, 13, 32⟩ : ExceptionTableEntry)] (⟨0, 10, 17, 13⟩ : ExceptionTableEntry) [] (htab.trans rfl) (fun z hz => Or.inr ((fun e => by subst e; exact ⟨by decide, xIOB, (hts (.classLink RL 32 xIOB) (by decide +kernel)), hXN.2.1⟩) (List.mem_singleton.mp hz))) rfl (by decide) (hts (.classLink RL 13 xIAE) (by decide +kernel)) (va_Nw.use rfl hXS.2.1) h1 h2 h3 ?_
      show W p l e _ s m args below meth c H locs _ _ Q (F0 m 17 ls [.ref q9])
      refine lv_astore (lv' := [(4, .ref q9), (0, .ref r), (1, .int x), (2, .int y9), (3, .ref o)]) hx hb dL_advise_17 hl (by decide) rfl (fun ls hl => ?_)
      refine lv_iconst (v := 2) hx hb dL_advise_19 (by decide) ?_
      subst hQ
      refine vx_ret (W.widen (k := 2) (n := 12) (Nat.le_of_ble_eq_true rfl) (Nat.le_of_ble_eq_true rfl) ?_)
      exact W.iret hx hb hr (fun t ht hW => ⟨⟨_, f, rfl, ⟨by rw [hres]; simp [hcode, hcOA, xIAE, xISE, xIOB], fun v hv => by rw [hres] at hv; cases hv⟩, by dsimp only; rw [ht, hres]; exact ⟨hP, hO⟩⟩, hS.F ht⟩) hS.2.2 dL_advise_20
