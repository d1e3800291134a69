/-! p20: the law's small methods -/
abbrev wRace (cI cT : ClassId) (r tr k1 k2 k3 ts : Nat) (ad : Nat → Nat → Nat) (n : Nat) (tick : Int32) (KF S U V : Nat → Int32) (T : Nat → TV) : va_W := [(r, oR tr ts (ad 0 0) (ad 1 0) (nI n) tick), (tr, oK KF k1 k2 k3), (k1, aI cI 12 S), (k2, aI cI 12 U), (k3, aI cI 12 V), (ts, aQ cT 6 (tq ad n))] ++ blks cI ad T (n + 2)
theorem Met.ofX {l : Launch} {y : MethodName} {ws : List Cond} {rm : Room} {Pc : Array Value → State → Prop} {Qc : Array Value → State → Outcome → State → Prop} {mc ms : Nat} {free : Addr → Prop} (h : vx_Met l y ws rm Pc Qc (fun _ _ _ => False) mc ms free) : Met l y ws rm Pc Qc mc ms free := by
  intro p e ha hc hk s m args below hf happ hpre ht
  obtain ⟨k, o, h1, h2, h3, hQ⟩ := h p e ha hc hk s m args below hf happ hpre ht
  rcases hQ with hQ | ⟨q, -, E, ce, L, hX, -⟩
  · exact ⟨k, o, h1, h2, h3, hQ⟩
  · exact absurd hX id
def bel (v : Int32) (N : Nat) : Nat := (v.toBitVec.toNat % 2 ^ 31) % N
theorem bel_lt (v : Int32) {N : Nat} (h : 0 < N) : bel v N < N := Nat.mod_lt _ h
theorem bel_eq (v : Int32) {N : Nat} (h : 0 < N) (hN : N ≤ 1000) : (v &&& 2147483647) - (v &&& 2147483647) / nI N * nI N = nI (bel v N) := by
  rw [pk_and v 31 (by decide +kernel)]
  exact pk_rem (Nat.mod_lt _ (by decide)) h (by omega)
def cCel (L : Nat) (xs : Nat → Int32) (k : Nat) : Int32 := if k < L then xs k else 790386105 * nI (k + 3)
def CeP (av : List Value) (b L : Nat) (xs : Nat → Int32) : Array Value → State → Prop := va_Pc av (fun U => va_X b L xs U U.heap)
theorem CeP.blind {av : List Value} {b L : Nat} {xs : Nat → Int32} : FrameBlind (CeP av b L xs) := fun _ U g mk h => ⟨h.1, va_X.moved (u := U) (U := U.calling g mk _) (Vm.Alike.refl U.vm) h.2⟩
section PLB
variable {p : Program} {l : Launch} {e : Env} {R : Room} {s : State} {m : MethodId} {args : Array Value} {below : List Frame} {meth : Method} {c : Code} {H : Heap} {locs : List Loc} {cells slots : Nat} {Q : State → Prop}
variable {cc : ByteArray} {pc : Nat} {ls : Array Slot} {rest st0 : List Value} {D : va_G} {cI cT cL cG cZ : ClassId} {A : Nat → Prop}
variable {y : MethodName} {bytes : ByteArray} {maxL nL n index : Nat} {ret : Option FieldType} {ws Ts : List Cond} {rm : Room} {own C : String} {b : Addr} {As : List Value} {W0 w w' : va_W}
theorem pl_oI {res : Int32 ⊕ String} {mc ms : Nat} (S : CallFix p m c cc nL s args Ts own) (hM : MetO l D cI cT y ws rm (.ref b :: As) w w' res mc ms H.size) (cw : CallW R s args own C index y bytes maxL ret ws rm mc ms n) (hK : KK D cI cT s)
    (hXZ : XZ A s s.heap) (hXS : XS s) (hP : va_P D vwCl w H) (hD : va_D A w) (hS : va_S A s.heap H locs) (hA : ∀ q, s.heap.size ≤ q → A q) (hm : w'.map Prod.fst = w.map Prod.fst)
    {ci : Nat} {q : vw_C} {fs : List Value} (hc : vwCl[ci]? = some q) (he : w[0]? = some (b, .inr (ci, fs))) (hcC : q.1 = C) (hn : As.length = n) (hsize : ls.size = nL) (hst : st0 = As.reverse ++ .ref b :: rest) (hW : (rest.map fun v => v.category).sum ≤ 8)
    (hdg : decode cc pc = .ok (.invokevirtual index, 3)) (hf : cells + mc ≤ R.cells ∧ slots + ms ≤ R.slots)
    (kk : ∀ (z : Int32) (H1 : Heap) (locs1 : List Loc), res = .inl z → va_P D vwCl w' H1 → va_D A w' → va_S A s.heap H1 locs1 → W p l e R s m args below meth c H1 locs1 (cells + mc) (slots + ms) Q (F0 m (pc + 3) ls (.int z :: rest)))
    (kx : ∀ (E : String) (ce : Cell) (q9 : Addr) (H1 : Heap) (locs1 : List Loc), res = .inr E → va_P D vwCl w H1 → va_S A s.heap H1 locs1 → H1[q9]? = some ce → ce.vm = .none → s.vm.findClass E = some ce.cls → vx_W p l e R s m args below meth c H1 locs1 (cells + mc) (slots + ms) Q (F0 m pc ls rest) q9) : W p l e R s m args below meth c H locs cells slots Q (F0 m pc ls st0) := by
  subst hst hcC
  have hF := frA_in hD hS hA
  refine vx_calli (vx_runV (rest := rest) S hM cw ⟨MxP.blind, va_recv hK.1 hP hc he, sp_mx hK hXZ hXS hP hD hS hA⟩ rfl hn hsize rfl (lv_room hW) hdg hf) hS (fun q _ h => hF q h) hF (fun q _ h => hF q h) (fun E ce q9 u t H1 locs1 ht hvm hu hB hz hk hS1 h1 h2 h3 => ?_) (fun z u t H1 locs1 ht hvm hw hB hz hk hS1 => ?_)
  · rw [ht] at hB
    exact kx E ce q9 H1 locs1 hB.1 hB.2 hS1 h1 h2 h3
  · rw [ht] at hB
    exact kk z H1 locs1 hw hB (sp_Dsame hm hD) hS1
/-- a cell of the script -/
theorem pl_cel {b L : Nat} {xs : Nat → Int32} {v : Int32} (S : CallFix p m c cc nL s args Ts own) (hM : Met l y ws rm (CeP As b L xs) (QcRead v) 0 0 (fun _ => False)) (cw : CallB R s args own index y bytes maxL ret ws rm 0 0 n ∧ (Cond.static y).before args s = true) (hX : va_X b L xs s s.heap) (hbl : b < s.heap.size) (hbA : ¬ A b) (hS : va_S A s.heap H locs)
    (hn : As.length = n) (hsize : ls.size = nL) (hst : st0 = As.reverse ++ rest) (hW : (rest.map fun v => v.category).sum ≤ 8)
    (hdg : decode cc pc = .ok (.invokestatic index, 3)) (hf : cells ≤ R.cells ∧ slots ≤ R.slots)
    (kk : W p l e R s m args below meth c H locs cells slots Q (F0 m (pc + 3) ls (.int v :: rest))) : W p l e R s m args below meth c H locs cells slots Q (F0 m pc ls st0) := by
  subst hst
  exact W.callR (W.runS (rest := rest) S hM cw ⟨CeP.blind, fun U hU hW => ⟨rfl, by show va_X b L xs U U.heap; rw [hU]; exact va_X.moved hW.alike (hX.kept (hS.2.1 b hbl hbA))⟩⟩ rfl hn hsize rfl (lv_room hW) hdg hf) kk
end PLB
theorem roller_res {i j n : Nat} {T : Nat → TV} (hn : n ≤ 6) (hi : i < n) (hok : cOK (T (i + 2))) (hj : j < cN (T (i + 2))) : rRoller (nI i) (nI j) n T = if (T (i + 2)).2.1 j = -9999 then .inr xISE else .inl ((T (i + 2)).2.1 j) := by
  have h3 := hok.1.1
  have h8 := hok.1.2
  have c : ¬ (nI j < 0 ∨ ¬ nI j < (T (i + 2)).1 3 ∨ ¬ nI j < nI 8) := fun z => by
    rcases z with z | z | z
    · exact nI_pos (by omega) z
    · exact z (by rw [h3]; exact nI_lt hj (by omega))
    · exact z (nI_lt (by omega) (by omega))
  unfold rRoller
  rw [isIn_lt (by omega) hi, nI_clamp (show i < 2 ^ 31 by omega), nI_clamp (show j < 2 ^ 31 by omega), if_pos rfl, if_neg c]
abbrev rmL_below : Room := { frames := 0, cells := 0, slots := 0, locals := 0 }
theorem mL_below (l : Launch) (D : va_G) (cI cT : ClassId) (v : Int32) (N : Nat) (h0 : 0 < N) (hN : N ≤ 1000) : MetR l D cI cT yL_below wsL_below rmL_below [.int v, .int (nI N)] [] (nI (bel v N)) := by
  refine Met.ofW (cc := cL_below) (maxL := 2) (ret := (some .int)) (by decide) rfl ?_
  intro p e s m args below meth c s₁ B hml hv
  obtain ⟨hargs, hP, hK⟩ := hv
  have hx := B.exec
  have hb := B.bytes
  have hr := B.returns
  have hts := atoms_spec (ws := wsL_below) B.pre
  have hown : s.vm.findClass RL = some m.cls := findClass_of_methodNamed B.named
  have hlocks := B.notSynchronized
  have he : entryFrame m args 2 = F0 m 0 ((lg_sl [.int v, .int (nI N)] ++ List.replicate (2 - (lg_sl [.int v, .int (nI N)]).length) Slot.unset).toArray) [] := by rw [hargs]; exact lg_entry_eq m _ _
  rw [he]
  change W p l e rmL_below s m args below meth c s.heap [] 0 0 (MQ below (QcRead (nI (bel v N))) args s 0 0 (fun _ => False)) _
  obtain ⟨Q, hQ⟩ : ∃ Q, Q = MQ below (QcRead (nI (bel v N))) args s 0 0 (fun _ => False) := ⟨_, rfl⟩
  rw [← hQ]
  have hl := lv_entry [.int v, .int (nI N)] (n := 2) (Nat.le_of_ble_eq_true rfl)
  generalize (lg_sl [.int v, .int (nI N)] ++ List.replicate (2 - (lg_sl [.int v, .int (nI N)]).length) Slot.unset).toArray = ls at hl ⊢
  have hl : lv_has ls 2 [(0, .int v), (1, .int (nI N))] := hl
  refine lv_iload_n hx hb dL_below_0 rfl (lv_at hl 0 rfl) ?_
  refine lv_ldc hx hb hown (hts (.constant RL 7 (2147483647)) (by decide +kernel)) dL_below_1 ?_
  refine lv_iand hx hb dL_below_3 ?_
  refine lv_iload_n hx hb dL_below_4 rfl (lv_at hl 1 rfl) ?_
  refine lv_irem hx hb dL_below_5 (nI_ne0 h0 (by omega)) ?_
  refine sp_top (bel_eq v h0 hN) ?_
  subst hQ
  exact W.iret hx hb hr (fun t ht _ => ⟨rfl, ht⟩) (fun _ h => nomatch h) dL_below_6
abbrev rmL_cell : Room := { frames := 0, cells := 0, slots := 0, locals := 0 }
theorem mL_cell (l : Launch) (b L k : Nat) (xs : Nat → Int32) (hL : L ≤ 260) (hk : k ≤ 1000) : Met l yL_cell wsL_cell rmL_cell (CeP [.ref b, .int (nI k)] b L xs) (QcRead (cCel L xs k)) 0 0 (fun _ => False) := by
  refine Met.ofW (cc := cL_cell) (maxL := 2) (ret := (some .int)) (by decide) rfl ?_
  intro p e s m args below meth c s₁ B hml hv
  obtain ⟨hargs, hX⟩ := hv
  have hx := B.exec
  have hb := B.bytes
  have hr := B.returns
  have hts := atoms_spec (ws := wsL_cell) B.pre
  have hown : s.vm.findClass RL = some m.cls := findClass_of_methodNamed B.named
  have hlocks := B.notSynchronized
  have he : entryFrame m args 2 = F0 m 0 ((lg_sl [.ref b, .int (nI k)] ++ List.replicate (2 - (lg_sl [.ref b, .int (nI k)]).length) Slot.unset).toArray) [] := by rw [hargs]; exact lg_entry_eq m _ _
  rw [he]
  change W p l e rmL_cell s m args below meth c s.heap [] 0 0 (MQ below (QcRead (cCel L xs k)) args s 0 0 (fun _ => False)) _
  obtain ⟨Q, hQ⟩ : ∃ Q, Q = MQ below (QcRead (cCel L xs k)) args s 0 0 (fun _ => False) := ⟨_, rfl⟩
  rw [← hQ]
  have hl := lv_entry [.ref b, .int (nI k)] (n := 2) (Nat.le_of_ble_eq_true rfl)
  generalize (lg_sl [.ref b, .int (nI k)] ++ List.replicate (2 - (lg_sl [.ref b, .int (nI k)]).length) Slot.unset).toArray = ls at hl ⊢
  have hl : lv_has ls 2 [(0, .ref b), (1, .int (nI k))] := hl
  have hbl : b < s.heap.size := by obtain ⟨scr, h1, -⟩ := hX; exact (Array.getElem?_eq_some_iff.mp h1).1
  have hS : va_S (fun _ => False) s.heap s.heap [] := va_S.rf
  refine lv_iload_n hx hb dL_cell_0 rfl (lv_at hl 1 rfl) ?_
  refine lv_aload_n hx hb dL_cell_1 rfl (lv_at hl 0 rfl) ?_
  refine va_slen hx hb hX hbl id hS dL_cell_2 ?_
  refine sp_ge (by omega) (by omega) (tgt := 12) hx hb dL_cell_3 (by decide) (fun c => ?_) (fun c => ?_)
  · skip
    refine lv_ldc hx hb hown (hts (.constant RL 8 (790386105)) (by decide +kernel)) dL_cell_12 ?_
    refine lv_iload_n hx hb dL_cell_14 rfl (lv_at hl 1 rfl) ?_
    refine lv_iconst (v := 3) hx hb dL_cell_15 (by decide) ?_
    refine lv_iadd hx hb dL_cell_16 ?_
    refine sp_top (show (nI k) + 3 = nI (k + 3) from nI_add k 3) ?_
    refine lv_imul hx hb dL_cell_17 ?_
    refine sp_top (show _ = cCel L xs k by unfold cCel; rw [if_neg (by omega)]) ?_
    subst hQ
    exact W.iret hx hb hr (fun t ht _ => ⟨rfl, ht⟩) (fun _ h => nomatch h) dL_cell_18
  · skip
    refine lv_aload_n hx hb dL_cell_6 rfl (lv_at hl 0 rfl) ?_
    refine lv_iload_n hx hb dL_cell_7 rfl (lv_at hl 1 rfl) ?_
    refine va_sld hx hb hX hbl id hS (vp_in_nI c (by omega)) dL_cell_8 ?_
    refine lv_goto (tgt := 18) hx hb dL_cell_9 (by decide) ?_
    refine sp_top (show _ = cCel L xs k by unfold cCel; rw [if_pos c, nI_clamp (by omega)]) ?_
    subst hQ
    exact W.iret hx hb hr (fun t ht _ => ⟨rfl, ht⟩) (fun _ h => nomatch h) dL_cell_18
abbrev rmL_placeOf : Room := { frames := 8, cells := 2, slots := 12, locals := 128 }
set_option maxHeartbeats 4000000 in
set_option maxRecDepth 100000 in
theorem mL_placeOf (l : Launch) (D : va_G) (cI cT : ClassId) (hl9 : l.stackTraces = false) (sz : Nat) (r tr k1 k2 k3 ts : Nat) (ad : Nat → Nat → Nat) (n : Nat) (hn : n ≤ 6) (tick : Int32) (KF S U V : Nat → Int32) (T : Nat → TV) (i j : Nat) (hi : i < n) (hok : cOK (T (i + 2))) (hj : j < cN (T (i + 2))) : Met l yL_placeOf wsL_placeOf rmL_placeOf (MxP D cI cT [.ref r, .int (nI i), .int (nI j)] (wRace cI cT r tr k1 k2 k3 ts ad n tick KF S U V T) sz) (va_Qi (S := Unit) (fun z _ => z = (T (i + 2)).2.1 j) (fun _ t => va_P D vwCl (wRace cI cT r tr k1 k2 k3 ts ad n tick KF S U V T) t.heap) (frA ((wRace cI cT r tr k1 k2 k3 ts ad n tick KF S U V T).map Prod.fst) sz)) 2 12 (frA ((wRace cI cT r tr k1 k2 k3 ts ad n tick KF S U V T).map Prod.fst) sz) := by
  refine Met.ofX (vx_ofWH (cc := cL_placeOf) (maxL := 4) (ret := (some .int)) (by decide) rfl ?_)
  intro p e s m args below meth c s₁ B hml hv
  obtain ⟨⟨hargs, hsz, hP, hR0, hK, hN⟩, hXZ, hXS⟩ := hv
  subst hsz
  have hx := B.exec
  have hb := B.bytes
  have hr := B.returns
  have hts := atoms_spec (ws := wsL_placeOf) B.pre
  have hown : s.vm.findClass RL = some m.cls := findClass_of_methodNamed B.named
  have hlocks := B.notSynchronized
  have htab := vx_table (x := yL_placeOf) B (hts (Cond.codeWith yL_placeOf cL_placeOf 4 (some .int) [(0, 6, 7, 132)]) List.mem_cons_self)
  have he : entryFrame m args 4 = F0 m 0 ((lg_sl [.ref r, .int (nI i), .int (nI j)] ++ List.replicate (4 - (lg_sl [.ref r, .int (nI i), .int (nI j)]).length) Slot.unset).toArray) [] := by rw [hargs]; exact lg_entry_eq m _ _
  rw [he]
  obtain ⟨A, hAe⟩ : ∃ A, A = (frA ((wRace cI cT r tr k1 k2 k3 ts ad n tick KF S U V T).map Prod.fst) s.heap.size) := ⟨_, rfl⟩
  change W p l e rmL_placeOf s m args below meth c s.heap [] 0 0 (vx_MQ below (va_Qi (S := Unit) (fun z _ => z = (T (i + 2)).2.1 j) (fun _ t => va_P D vwCl (wRace cI cT r tr k1 k2 k3 ts ad n tick KF S U V T) t.heap) (frA ((wRace cI cT r tr k1 k2 k3 ts ad n tick KF S U V T).map Prod.fst) s.heap.size)) (fun _ _ _ => False) args s 2 12 (frA ((wRace cI cT r tr k1 k2 k3 ts ad n tick KF S U V T).map Prod.fst) s.heap.size)) _
  rw [← hAe]
  have hXZ : XZ A s s.heap := by rw [hAe]; exact hXZ
  obtain ⟨Q, hQ⟩ : ∃ Q, Q = vx_MQ below (va_Qi (S := Unit) (fun z _ => z = (T (i + 2)).2.1 j) (fun _ t => va_P D vwCl (wRace cI cT r tr k1 k2 k3 ts ad n tick KF S U V T) t.heap) A) (fun _ _ _ => False) args s 2 12 A := ⟨_, rfl⟩
  rw [← hQ]
  have hl := lv_entry [.ref r, .int (nI i), .int (nI j)] (n := 4) (Nat.le_of_ble_eq_true rfl)
  generalize (lg_sl [.ref r, .int (nI i), .int (nI j)] ++ List.replicate (4 - (lg_sl [.ref r, .int (nI i), .int (nI j)]).length) Slot.unset).toArray = ls at hl ⊢
  have hl : lv_has ls 4 [(0, .ref r), (1, .int (nI i)), (2, .int (nI j))] := hl
  have hA : ∀ q : Nat, s.heap.size ≤ q → A q := by rw [hAe]; exact fun q h => Or.inr h
  have hD : va_D A (wRace cI cT r tr k1 k2 k3 ts ad n tick KF S U V T) := sp_D (by rw [List.append_nil] at hN; exact hN) (by rw [hAe]; exact fun q h => Or.inl h)
  have hS : va_S A s.heap s.heap [] := va_S.rf
  obtain ⟨H, hH0⟩ : ∃ H, H = s.heap := ⟨_, rfl⟩
  obtain ⟨locs, hlo⟩ : ∃ L : List Loc, L = [] := ⟨_, rfl⟩
  have hP : va_P D vwCl (wRace cI cT r tr k1 k2 k3 ts ad n tick KF S U V T) H := by rw [hH0]; exact hP
  have hS : va_S A s.heap H locs := by rw [hH0, hlo]; exact hS
  rw [show W p l e rmL_placeOf s m args below meth c s.heap [] 0 0 Q (F0 m 0 ls []) = W p l e rmL_placeOf s m args below meth c H locs 0 0 Q (F0 m 0 ls []) by rw [hH0, hlo]]
  clear hH0 hlo
  have hRes := roller_res hn hi hok hj
  refine lv_aload_n hx hb dL_placeOf_0 rfl (lv_at hl 0 rfl) ?_
  refine lv_iload_n hx hb dL_placeOf_1 rfl (lv_at hl 1 rfl) ?_
  refine lv_iload_n hx hb dL_placeOf_2 rfl (lv_at hl 2 rfl) ?_
  refine pl_oI (rest := []) (As := [.int (nI i), .int (nI j)]) ⟨hx, hb, hml, hown, hts⟩ (mX2_roller l D cI cT hl9 H.size r tr k1 k2 k3 ts ad n hn tick KF S U V T (nI i) (nI j)) (cwV 2 hts gL_placeOf_X2_roller rfl rfl rfl (by decide +kernel) ⟨Nat.le_of_ble_eq_true rfl, Nat.le_of_ble_eq_true rfl⟩) hK hXZ hXS hP hD hS hA rfl (ci := 2) rfl rfl rfl rfl hl.1 rfl (Nat.le_of_ble_eq_true rfl) dL_placeOf_3 ⟨Nat.le_of_ble_eq_true rfl, Nat.le_of_ble_eq_true rfl⟩ (fun z H locs hres hP hD hS => ?_) (fun E ce q9 H locs hres hP hS h1 h2 h3 => ?_)
  · skip
    have hz : z = (T (i + 2)).2.1 j := by
      rw [hRes] at hres
      split at hres
      · cases hres
      · exact (Sum.inl.inj hres).symm
    subst hQ
    refine vx_ret ?_
    exact W.iret hx hb hr (fun t ht hW => ⟨⟨_, (), rfl, hz, by dsimp only; rw [ht]; exact hP⟩, by subst hAe; exact hS.F ht⟩) hS.2.2 dL_placeOf_6
  · skip
    have hz : E = xISE ∧ (T (i + 2)).2.1 j = -9999 := by
      rw [hRes] at hres
      split at hres
      · exact ⟨(Sum.inr.inj hres).symm, by assumption⟩
      · cases hres
    obtain ⟨rfl, hz2⟩ := hz
    refine vx_catch (own := RL) (name := xISE) hown [] (⟨0, 6, 7, 132⟩ : ExceptionTableEntry) [] (htab.trans rfl) (fun z hz => absurd hz List.not_mem_nil) rfl (by decide) (hts (.classLink RL 132 xISE) (by decide +kernel)) (va_Nw.use rfl hXS.2.2.1) h1 h2 h3 ?_
    show W p l e _ s m args below meth c H locs _ _ Q (F0 m 7 ls [.ref q9])
    refine lv_astore_n (lv' := [(3, .ref q9), (0, .ref r), (1, .int (nI i)), (2, .int (nI j))]) hx hb dL_placeOf_7 rfl hl (by decide) rfl (fun ls hl => ?_)
    refine lv_sipush (v := (-9999)) hx hb dL_placeOf_8 (by decide) ?_
    subst hQ
    refine vx_ret ?_
    exact W.iret hx hb hr (fun t ht hW => ⟨⟨_, (), rfl, hz2.symm, by dsimp only; rw [ht]; exact hP⟩, by subst hAe; exact hS.F ht⟩) hS.2.2 dL_placeOf_11
