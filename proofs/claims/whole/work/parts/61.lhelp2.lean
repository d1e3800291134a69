abbrev rmL_addTeam : Room := { frames := 8, cells := 5, slots := 40, locals := 126 }
set_option maxHeartbeats 4000000 in
set_option maxRecDepth 100000 in
/-- the law's addTeam -/
theorem mL_addTeam (l : Launch) (D : va_G) (cI cT cJ : ClassId) (hl9 : l.stackTraces = false) (sz o : Nat) (f : Nat → Int64) (r tr k1 k2 k3 ts : Nat) (ad : Nat → Nat → Nat) (n : Nat) (hn : n ≤ 6) (tick : Int32) (KF S U V : Nat → Int32) (T : Nat → TV) (a b d : Int32) : MetHN l D cI cT cJ yL_addTeam wsL_addTeam rmL_addTeam [.ref r, .int a, .int b, .int d, .ref o] ([(r, oR tr ts (ad 0 0) (ad 1 0) (nI n) tick), (tr, oK KF k1 k2 k3), (k1, aI cI 12 S), (k2, aI cI 12 U), (k3, aI cI 12 V), (ts, aQ cT 6 (tq ad n))] ++ blks cI ad T (n + 2)) (fun u => ([(r, oR tr ts (ad 0 0) (ad 1 0) (nI (n + 1)) tick), (tr, oK KF k1 k2 k3), (k1, aI cI 12 S), (k2, aI cI 12 U), (k3, aI cI 12 V), (ts, aQ cT 6 (tq (adN ad n u) (n + 1)))] ++ blks cI (adN ad n u) (setT T (n + 2) (cTeamNew (nI n) a b d.toNatClampNeg)) (n + 1 + 2))) 4 o f hc12 (rAdd a b d n tick) 5 40 sz := by
  refine Met.ofX (vx_ofWH (cc := cL_addTeam) (maxL := 6) (ret := (some .int)) (by decide) rfl ?_)
  intro p e s m args below meth c s₁ B hml hv
  obtain ⟨⟨⟨hargs, hsz, hP, hR0, hK, hN⟩, hXZ, hXS⟩, hO, ho, hJ, hXN⟩ := hv
  subst hsz
  have hx := B.exec
  have hb := B.bytes
  have hr := B.returns
  have hts := atoms_spec (ws := wsL_addTeam) B.pre
  have hown : s.vm.findClass RL = some m.cls := findClass_of_methodNamed B.named
  have hlocks := B.notSynchronized
  have htab := vx_table (x := yL_addTeam) B (hts (Cond.codeWith yL_addTeam cL_addTeam 6 (some .int) [(0, 12, 15, 13), (0, 12, 19, 15)]) List.mem_cons_self)
  have he : entryFrame m args 6 = F0 m 0 ((lg_sl [.ref r, .int a, .int b, .int d, .ref o] ++ List.replicate (6 - (lg_sl [.ref r, .int a, .int b, .int d, .ref o]).length) Slot.unset).toArray) [] := by rw [hargs]; exact lg_entry_eq m _ _
  rw [he]
  obtain ⟨A, hAe⟩ : ∃ A, A = (frA (List.map Prod.fst ([(r, oR tr ts (ad 0 0) (ad 1 0) (nI n) tick), (tr, oK KF k1 k2 k3), (k1, aI cI 12 S), (k2, aI cI 12 U), (k3, aI cI 12 V), (ts, aQ cT 6 (tq ad n))] ++ blks cI ad T (n + 2)) ++ [o]) s.heap.size) := ⟨_, rfl⟩
  change W p l e rmL_addTeam s m args below meth c s.heap [] 0 0 (vx_MQ below (va_Qi (S := List Nat × (Nat → Int64)) (fun z q => z = hcode hc12 (rAdd a b d n tick) ∧ ∀ v, (rAdd a b d n tick) = .inl v → q.2 0 = Int32.toInt64 v) (fun q t => hWN D (rAdd a b d n tick) ([(r, oR tr ts (ad 0 0) (ad 1 0) (nI n) tick), (tr, oK KF k1 k2 k3), (k1, aI cI 12 S), (k2, aI cI 12 U), (k3, aI cI 12 V), (ts, aQ cT 6 (tq ad n))] ++ blks cI ad T (n + 2)) (fun u => ([(r, oR tr ts (ad 0 0) (ad 1 0) (nI (n + 1)) tick), (tr, oK KF k1 k2 k3), (k1, aI cI 12 S), (k2, aI cI 12 U), (k3, aI cI 12 V), (ts, aQ cT 6 (tq (adN ad n u) (n + 1)))] ++ blks cI (adN ad n u) (setT T (n + 2) (cTeamNew (nI n) a b d.toNatClampNeg)) (n + 1 + 2))) (frA (List.map Prod.fst ([(r, oR tr ts (ad 0 0) (ad 1 0) (nI n) tick), (tr, oK KF k1 k2 k3), (k1, aI cI 12 S), (k2, aI cI 12 U), (k3, aI cI 12 V), (ts, aQ cT 6 (tq ad n))] ++ blks cI ad T (n + 2))) s.heap.size) q.1 4 t.heap ∧ va_P D vwCl [(o, aJ cJ q.2)] t.heap) (frA (List.map Prod.fst ([(r, oR tr ts (ad 0 0) (ad 1 0) (nI n) tick), (tr, oK KF k1 k2 k3), (k1, aI cI 12 S), (k2, aI cI 12 U), (k3, aI cI 12 V), (ts, aQ cT 6 (tq ad n))] ++ blks cI ad T (n + 2)) ++ [o]) s.heap.size)) (fun _ _ _ => False) args s 5 40 (frA (List.map Prod.fst ([(r, oR tr ts (ad 0 0) (ad 1 0) (nI n) tick), (tr, oK KF k1 k2 k3), (k1, aI cI 12 S), (k2, aI cI 12 U), (k3, aI cI 12 V), (ts, aQ cT 6 (tq ad n))] ++ blks cI ad T (n + 2)) ++ [o]) s.heap.size)) _
  rw [← hAe]
  have hXZ : XZ A s s.heap := by rw [hAe]; exact hXZ
  obtain ⟨Q, hQ⟩ : ∃ Q, Q = vx_MQ below (va_Qi (S := List Nat × (Nat → Int64)) (fun z q => z = hcode hc12 (rAdd a b d n tick) ∧ ∀ v, (rAdd a b d n tick) = .inl v → q.2 0 = Int32.toInt64 v) (fun q t => hWN D (rAdd a b d n tick) ([(r, oR tr ts (ad 0 0) (ad 1 0) (nI n) tick), (tr, oK KF k1 k2 k3), (k1, aI cI 12 S), (k2, aI cI 12 U), (k3, aI cI 12 V), (ts, aQ cT 6 (tq ad n))] ++ blks cI ad T (n + 2)) (fun u => ([(r, oR tr ts (ad 0 0) (ad 1 0) (nI (n + 1)) tick), (tr, oK KF k1 k2 k3), (k1, aI cI 12 S), (k2, aI cI 12 U), (k3, aI cI 12 V), (ts, aQ cT 6 (tq (adN ad n u) (n + 1)))] ++ blks cI (adN ad n u) (setT T (n + 2) (cTeamNew (nI n) a b d.toNatClampNeg)) (n + 1 + 2))) (frA (List.map Prod.fst ([(r, oR tr ts (ad 0 0) (ad 1 0) (nI n) tick), (tr, oK KF k1 k2 k3), (k1, aI cI 12 S), (k2, aI cI 12 U), (k3, aI cI 12 V), (ts, aQ cT 6 (tq ad n))] ++ blks cI ad T (n + 2))) s.heap.size) q.1 4 t.heap ∧ va_P D vwCl [(o, aJ cJ q.2)] t.heap) A) (fun _ _ _ => False) args s 5 40 A := ⟨_, rfl⟩
  rw [← hQ]
  have hl := lv_entry [.ref r, .int a, .int b, .int d, .ref o] (n := 6) (Nat.le_of_ble_eq_true rfl)
  generalize (lg_sl [.ref r, .int a, .int b, .int d, .ref o] ++ List.replicate (6 - (lg_sl [.ref r, .int a, .int b, .int d, .ref o]).length) Slot.unset).toArray = ls at hl ⊢
  have hl : lv_has ls 6 [(0, .ref r), (1, .int a), (2, .int b), (3, .int d), (4, .ref o)] := hl
  have hA : ∀ q : Nat, s.heap.size ≤ q → A q := by rw [hAe]; exact fun q h => Or.inr h
  have hAo : A o := by rw [hAe]; exact Or.inl (List.mem_append_right _ (List.mem_singleton.mpr rfl))
  have hD : va_D A ([(r, oR tr ts (ad 0 0) (ad 1 0) (nI n) tick), (tr, oK KF k1 k2 k3), (k1, aI cI 12 S), (k2, aI cI 12 U), (k3, aI cI 12 V), (ts, aQ cT 6 (tq ad n))] ++ blks cI ad T (n + 2)) := sp_D (by rw [List.append_nil] at hN; exact hN) (by rw [hAe]; exact fun q h => Or.inl (List.mem_append_left _ h))
  have hS : va_S A s.heap s.heap [] := va_S.rf
  obtain ⟨H, hH0⟩ : ∃ H, H = s.heap := ⟨_, rfl⟩
  obtain ⟨locs, hlo⟩ : ∃ L : List Loc, L = [] := ⟨_, rfl⟩
  have hP : va_P D vwCl ([(r, oR tr ts (ad 0 0) (ad 1 0) (nI n) tick), (tr, oK KF k1 k2 k3), (k1, aI cI 12 S), (k2, aI cI 12 U), (k3, aI cI 12 V), (ts, aQ cT 6 (tq ad n))] ++ blks cI ad T (n + 2)) H := by rw [hH0]; exact hP
  have hO : va_P D vwCl [(o, aJ cJ f)] H := by rw [hH0]; exact hO
  have hS : va_S A s.heap H locs := by rw [hH0, hlo]; exact hS
  rw [show W p l e rmL_addTeam s m args below meth c s.heap [] 0 0 Q (F0 m 0 ls []) = W p l e rmL_addTeam s m args below meth c H locs 0 0 Q (F0 m 0 ls []) by rw [hH0, hlo]]
  have hHs : H.size = s.heap.size := by rw [hH0]
  clear hH0 hlo
  refine lv_aload hx hb dL_addTeam_0 (lv_at hl 4 rfl) ?_
  refine lv_iconst (v := 0) hx hb dL_addTeam_2 (by decide) ?_
  refine lv_aload_n hx hb dL_addTeam_3 rfl (lv_at hl 0 rfl) ?_
  refine lv_iload_n hx hb dL_addTeam_4 rfl (lv_at hl 1 rfl) ?_
  refine lv_iload_n hx hb dL_addTeam_5 rfl (lv_at hl 2 rfl) ?_
  refine lv_iload_n hx hb dL_addTeam_6 rfl (lv_at hl 3 rfl) ?_
  refine sp_oIN (rest := [.int 0, .ref o]) (As := [.int a, .int b, .int d]) (w' := fun u => ([(r, oR tr ts (ad 0 0) (ad 1 0) (nI (n + 1)) tick), (tr, oK KF k1 k2 k3), (k1, aI cI 12 S), (k2, aI cI 12 U), (k3, aI cI 12 V), (ts, aQ cT 6 (tq (adN ad n u) (n + 1)))] ++ blks cI (adN ad n u) (setT T (n + 2) (cTeamNew (nI n) a b d.toNatClampNeg)) (n + 1 + 2))) (ci := 2) ⟨hx, hb, hml, hown, hts⟩ (mX2_addTeam l D cI cT hl9 H.size r tr k1 k2 k3 ts ad n hn tick KF S U V T a b d) (cwV 3 hts gL_addTeam_X2_addTeam rfl rfl rfl (by decide +kernel) ⟨Nat.le_of_ble_eq_true rfl, Nat.le_of_ble_eq_true rfl⟩) hK hXZ hXS hP hO ho hD hS hA rfl rfl rfl rfl hl.1 rfl (Nat.le_of_ble_eq_true rfl) dL_addTeam_7 ⟨Nat.le_of_ble_eq_true rfl, Nat.le_of_ble_eq_true rfl⟩ (fun z u H2 locs hres hu hP hO hDs hD ho2 hS => ?_) (fun E ce q9 H locs hres hP hO hS h1 h2 h3 => ?_)
  · skip
    refine lv_i2l (v := Int32.toInt64 z) hx hb dL_addTeam_10 rfl ?_
    refine sp_ost hx hb hJ hP hO ho2 hD hAo hS dL_addTeam_11 (fun f2 H locs hf2 hP hO hS => ?_)
    refine lv_goto (tgt := 23) hx hb dL_addTeam_12 (by decide) ?_
    refine lv_iconst (v := 0) hx hb dL_addTeam_23 (by decide) ?_
    subst hQ
    refine vx_ret (W.widen (k := 5) (n := 40) (Nat.le_of_ble_eq_true rfl) (Nat.le_of_ble_eq_true rfl) ?_)
    exact W.iret hx hb hr (fun t ht hW => ⟨⟨_, (u, f2), rfl, ⟨by rw [hres]; rfl, fun v hv => by rw [hres] at hv; rw [← Sum.inl.inj hv]; exact hf2⟩, by dsimp only; rw [ht, hres]; exact ⟨⟨hu, hP, by rw [hHs] at hDs; exact hDs⟩, hO⟩⟩, hS.F ht⟩) hS.2.2 dL_addTeam_24
  · skip
    have hE : E = xIAE ∨ E = xISE := by
      simp only [rAdd] at hres
      repeat' split at hres
      all_goals first | cases hres; done | exact Or.inl (Sum.inr.inj hres).symm | exact Or.inr (Sum.inr.inj hres).symm
    rcases hE with rfl | rfl
    · skip
      refine vx_catch (own := RL) (name := xIAE) hown [] (⟨0, 12, 15, 13⟩ : ExceptionTableEntry) [(⟨0, 12, 19, 15⟩ : ExceptionTableEntry)] (htab.trans rfl) (fun z hz => absurd hz List.not_mem_nil) rfl (by decide) (hts (.classLink RL 13 xIAE) (by decide +kernel)) (va_Nw.use rfl hXS.2.1) h1 h2 h3 ?_
      show W p l e _ s m args below meth c H locs _ _ Q (F0 m 15 ls [.ref q9])
      refine lv_astore (lv' := [(5, .ref q9), (0, .ref r), (1, .int a), (2, .int b), (3, .int d), (4, .ref o)]) hx hb dL_addTeam_15 hl (by decide) rfl (fun ls hl => ?_)
      refine lv_iconst (v := 1) hx hb dL_addTeam_17 (by decide) ?_
      subst hQ
      refine vx_ret (W.widen (k := 5) (n := 40) (Nat.le_of_ble_eq_true rfl) (Nat.le_of_ble_eq_true rfl) ?_)
      exact W.iret hx hb hr (fun t ht hW => ⟨⟨_, ([], f), rfl, ⟨by rw [hres]; simp [hcode, hc12, xIAE, xISE, xIOB], fun v hv => by rw [hres] at hv; cases hv⟩, by dsimp only; rw [ht, hres]; exact ⟨hP, hO⟩⟩, hS.F ht⟩) hS.2.2 dL_addTeam_18
    · skip
      refine vx_catch (own := RL) (name := xISE) hown [(⟨0, 12, 15, 13⟩ : ExceptionTableEntry)] (⟨0, 12, 19, 15⟩ : ExceptionTableEntry) [] (htab.trans rfl) (fun z hz => Or.inr ((fun e => by subst e; exact ⟨by decide, xIAE, (hts (.classLink RL 13 xIAE) (by decide +kernel)), hXN.1⟩) (List.mem_singleton.mp hz))) rfl (by decide) (hts (.classLink RL 15 xISE) (by decide +kernel)) (va_Nw.use rfl hXS.2.2.1) h1 h2 h3 ?_
      show W p l e _ s m args below meth c H locs _ _ Q (F0 m 19 ls [.ref q9])
      refine lv_astore (lv' := [(5, .ref q9), (0, .ref r), (1, .int a), (2, .int b), (3, .int d), (4, .ref o)]) hx hb dL_addTeam_19 hl (by decide) rfl (fun ls hl => ?_)
      refine lv_iconst (v := 2) hx hb dL_addTeam_21 (by decide) ?_
      subst hQ
      refine vx_ret (W.widen (k := 5) (n := 40) (Nat.le_of_ble_eq_true rfl) (Nat.le_of_ble_eq_true rfl) ?_)
      exact W.iret hx hb hr (fun t ht hW => ⟨⟨_, ([], f), rfl, ⟨by rw [hres]; simp [hcode, hc12, xIAE, xISE, xIOB], fun v hv => by rw [hres] at hv; cases hv⟩, by dsimp only; rw [ht, hres]; exact ⟨hP, hO⟩⟩, hS.F ht⟩) hS.2.2 dL_addTeam_22
