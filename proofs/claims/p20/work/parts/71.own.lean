/-! p20: the law's own classes: their constructors, begin -/
def MkP (D : va_G) (cI cT cL cG cZ : ClassId) (av : List Value) (w : va_W) (sz : Nat) : Array Value → State → Prop := va_Pc av (fun U => U.heap.size = sz ∧ va_P D vwCl w U.heap ∧ KX D cI cT cL cG cZ U ∧ (w.map Prod.fst).Nodup)
theorem MkP.blind {D : va_G} {cI cT cL cG cZ : ClassId} {av : List Value} {w : va_W} {sz : Nat} : FrameBlind (MkP D cI cT cL cG cZ av w sz) := fun _ _ _ _ h => ⟨h.1, h.2.1, h.2.2.1, h.2.2.2.1.call, h.2.2.2.2⟩
/-- a method without an answer that writes the cells w and makes new ones -/
abbrev MetK {S : Type} (l : Launch) (D : va_G) (cI cT cL cG cZ : ClassId) (y : MethodName) (ws : List Cond) (rm : Room) (av : List Value) (w : va_W) (good : S → Prop) (w' : S → va_W) (mc ms sz : Nat) : Prop := Met l y ws rm (MkP D cI cT cL cG cZ av w sz) (va_Qv (S := S) good (fun u t => va_P D vwCl (w' u) t.heap ∧ va_D (frA (w.map Prod.fst) sz) (w' u)) (frA (w.map Prod.fst) sz)) mc ms (frA (w.map Prod.fst) sz)
theorem pl_perm {D : va_G} {cl : List vw_C} {B : Nat → Prop} {A A' T : va_W} {H : Heap} (h : va_P D cl (A ++ T) H) (hD : va_D B (A ++ T)) (is : List Nat) (hn : va_nd is = true) (hs : is.map (fun i => A[i]?) = A'.map some) : va_P D cl (A' ++ T) H ∧ va_D B (A' ++ T) := by
  refine ⟨va_P.app (sp_pick (xb_P h) is hs) (pl_suf h), va_D.app ((pl_preD hD).sub is hn hs) (pl_sufD hD) (fun i j x y hi hj e => ?_)⟩
  have h1 : (is.map (fun i => A[i]?))[i]? = some (some x) := by rw [hs, List.getElem?_map, hi]; rfl
  rw [List.getElem?_map] at h1
  cases hq : is[i]? with
  | none => rw [hq] at h1; cases h1
  | some k =>
    rw [hq] at h1
    have h2 : A[k]? = some x := Option.some.inj h1
    have hk := (List.getElem?_eq_some_iff.mp h2).1
    have := hD.1 k (A.length + j) x y (by rw [List.getElem?_append_left hk]; exact h2) (by rw [List.getElem?_append_right (by omega), show A.length + j - A.length = j by omega]; exact hj) e
    omega
theorem pl_swap {D : va_G} {cl : List vw_C} {B : Nat → Prop} {a b : va_W} {H : Heap} (h : va_P D cl (a ++ b) H) (hD : va_D B (a ++ b)) : va_P D cl (b ++ a) H ∧ va_D B (b ++ a) := by
  refine ⟨va_P.app (pl_suf h) (xb_P h), va_D.app (pl_sufD hD) (pl_preD hD) (fun i j x y hi hj e => ?_)⟩
  have hk := (List.getElem?_eq_some_iff.mp hj).1
  have := hD.1 j (a.length + i) y x (by rw [List.getElem?_append_left hk]; exact hj) (by rw [List.getElem?_append_right (by omega), show a.length + i - a.length = i by omega]; exact hi) e.symm
  omega
abbrev rmX3_init : Room := { frames := 1, cells := 3, slots := 4, locals := 12 }
set_option maxHeartbeats 4000000 in
set_option maxRecDepth 100000 in
/-- a new Sim -/
theorem mX3_init (l : Launch) (D : va_G) (cI cT cL cG cZ : ClassId) (sz : Nat) (h0 : Nat) : MetK (S := Nat × Nat × Nat × (Nat → Int32)) l D cI cT cL cG cZ yX3_init wsX3_init rmX3_init [.ref h0] ([(h0, oSv 0 0 0 .null .null)]) (fun u => u.2.2.2 0 = 0) (fun u => [(h0, oSv 0 500 0 (.ref u.1) (.ref u.2.1)), (u.2.1, aQ cL 0 (fun _ => none)), (u.1, aQ cG 1 (va_up (fun _ => none) 0 (some u.2.2.1))), (u.2.2.1, aI cI 3 u.2.2.2)]) 3 4 sz := by
  refine Met.ofW (cc := cX3_init) (maxL := 1) (ret := none) (by decide) rfl ?_
  intro p e s m args below meth c s₁ B hml hv
  obtain ⟨hargs, hsz, hP, hX, hN⟩ := hv
  subst hsz
  have hx := B.exec
  have hb := B.bytes
  have hr := B.returns
  have hts := atoms_spec (ws := wsX3_init) B.pre
  have hown : s.vm.findClass RX3 = some m.cls := findClass_of_methodNamed B.named
  have hlocks := B.notSynchronized
  have hiX3 : ∀ w ∈ u_ws RX3 TX3 5, w ∈ wsX3_init := by decide +kernel
  have he : entryFrame m args 1 = F0 m 0 ((lg_sl [.ref h0] ++ List.replicate (1 - (lg_sl [.ref h0]).length) Slot.unset).toArray) [] := by rw [hargs]; exact lg_entry_eq m _ _
  rw [he]
  obtain ⟨A, hAe⟩ : ∃ A, A = (frA (List.map Prod.fst ([(h0, oSv 0 0 0 .null .null)])) s.heap.size) := ⟨_, rfl⟩
  change W p l e rmX3_init s m args below meth c s.heap [] 0 0 (MQ below (va_Qv (S := Nat × Nat × Nat × (Nat → Int32)) (fun u => u.2.2.2 0 = 0) (fun u t => va_P D vwCl ((fun u => [(h0, oSv 0 500 0 (.ref u.1) (.ref u.2.1)), (u.2.1, aQ cL 0 (fun _ => none)), (u.1, aQ cG 1 (va_up (fun _ => none) 0 (some u.2.2.1))), (u.2.2.1, aI cI 3 u.2.2.2)]) u) t.heap ∧ va_D (frA (List.map Prod.fst ([(h0, oSv 0 0 0 .null .null)])) s.heap.size) ((fun u => [(h0, oSv 0 500 0 (.ref u.1) (.ref u.2.1)), (u.2.1, aQ cL 0 (fun _ => none)), (u.1, aQ cG 1 (va_up (fun _ => none) 0 (some u.2.2.1))), (u.2.2.1, aI cI 3 u.2.2.2)]) u)) (frA (List.map Prod.fst ([(h0, oSv 0 0 0 .null .null)])) s.heap.size)) args s 3 4 (frA (List.map Prod.fst ([(h0, oSv 0 0 0 .null .null)])) s.heap.size)) _
  rw [← hAe]
  obtain ⟨Q, hQ⟩ : ∃ Q, Q = MQ below (va_Qv (S := Nat × Nat × Nat × (Nat → Int32)) (fun u => u.2.2.2 0 = 0) (fun u t => va_P D vwCl ((fun u => [(h0, oSv 0 500 0 (.ref u.1) (.ref u.2.1)), (u.2.1, aQ cL 0 (fun _ => none)), (u.1, aQ cG 1 (va_up (fun _ => none) 0 (some u.2.2.1))), (u.2.2.1, aI cI 3 u.2.2.2)]) u) t.heap ∧ va_D A ((fun u => [(h0, oSv 0 500 0 (.ref u.1) (.ref u.2.1)), (u.2.1, aQ cL 0 (fun _ => none)), (u.1, aQ cG 1 (va_up (fun _ => none) 0 (some u.2.2.1))), (u.2.2.1, aI cI 3 u.2.2.2)]) u)) A) args s 3 4 A := ⟨_, rfl⟩
  rw [← hQ]
  have hl := lv_entry [.ref h0] (n := 1) (Nat.le_of_ble_eq_true rfl)
  generalize (lg_sl [.ref h0] ++ List.replicate (1 - (lg_sl [.ref h0]).length) Slot.unset).toArray = ls at hl ⊢
  have hl : lv_has ls 1 [(0, .ref h0)] := hl
  have hA : ∀ q : Nat, s.heap.size ≤ q → A q := by rw [hAe]; exact fun q h => Or.inr h
  have hD : va_D A (([(h0, oSv 0 0 0 .null .null)])) := sp_D hN (by rw [hAe]; exact fun q h => Or.inl h)
  have hS : va_S A s.heap s.heap [] := va_S.rf
  obtain ⟨H, hH0⟩ : ∃ H, H = s.heap := ⟨_, rfl⟩
  obtain ⟨locs, hlo⟩ : ∃ L : List Loc, L = [] := ⟨_, rfl⟩
  have hP : va_P D vwCl (([(h0, oSv 0 0 0 .null .null)])) H := by rw [hH0]; exact hP
  have hS : va_S A s.heap H locs := by rw [hH0, hlo]; exact hS
  rw [show W p l e rmX3_init s m args below meth c s.heap [] 0 0 Q (F0 m 0 ls []) = W p l e rmX3_init s m args below meth c H locs 0 0 Q (F0 m 0 ls []) by rw [hH0, hlo]]
  clear hH0 hlo
  refine lv_aload_n hx hb dX3_init_0 rfl (lv_at hl 0 rfl) ?_
  refine W.objInit hx hb hown (hts (.methodLink RX3 1 objectInit) (by decide +kernel)) (hts (.instanceMethod objectInit) (by decide +kernel)) (hts _ (List.mem_of_getElem? (i := 3) rfl)) rfl (by rw [hml]; exact hl.1) rfl dX3_init_1 (Nat.le_of_ble_eq_true rfl) (Nat.le_of_ble_eq_true rfl) ?_
  refine W.eq (g2 := F0 m 4 ls []) rfl ?_
  refine lv_aload_n hx hb dX3_init_4 rfl (lv_at hl 0 rfl) ?_
  refine lv_sipush (v := 500) hx hb dX3_init_5 (by decide) ?_
  refine va_put (D := D) (ci := 3) (v := .int 500) (ty := .int) (C := RX3) (T := TX3) (N := 5) hx hb hts hiX3 tyX3 tyX3_ok nmX3 hown hX.2.1 hP hD hS 0 rfl rfl 1 (by decide) (hts (.fieldLink RX3 7 "SledgeRaceLaw$Sim" "track" "I") (by decide +kernel)) (fun _ h9 => h9) rfl (by decide +kernel) rfl rfl (Nat.le_of_ble_eq_true rfl) dX3_init_8 (fun H locs hP hD hS => ?_)
  have hP : va_P D vwCl ([(h0, oSv 0 500 0 .null .null)]) H := hP
  have hD : va_D A ([(h0, oSv 0 500 0 .null .null)]) := hD
  refine lv_aload_n hx hb dX3_init_11 rfl (lv_at hl 0 rfl) ?_
  refine lv_iconst (v := 1) hx hb dX3_init_12 (by decide) ?_
  refine pl_newg hx hb hown (hts (.classLink RX3 13 "[I") (by decide +kernel)) hX hP hD hS hA 1 rfl (by decide) (Nat.le_of_ble_eq_true rfl) (Nat.le_of_ble_eq_true rfl) dX3_init_13 (fun q13 H hP hD hS => ?_)
  refine lv_dup hx hb dX3_init_16 rfl ?_
  refine lv_iconst (v := 0) hx hb dX3_init_17 (by decide) ?_
  refine lv_iconst (v := 3) hx hb dX3_init_18 (by decide) ?_
  refine pl_newi hx hb (hts (.arrayClass .int) (by decide +kernel)) hX.1 hP hD hS hA 3 rfl (by omega) (Nat.le_of_ble_eq_true rfl) (Nat.le_of_ble_eq_true rfl) dX3_init_19 (fun q19 H hP hD hS => ?_)
  refine lv_dup hx hb dX3_init_21 rfl ?_
  refine lv_iconst (v := 0) hx hb dX3_init_22 (by decide) ?_
  refine lv_iconst (v := 0) hx hb dX3_init_23 (by decide) ?_
  refine sp_iast (i := 0) hx hb hX.1.1 hP hD hS 0 0 rfl rfl (by omega) (by omega) dX3_init_24 (fun H locs hP hD hS => ?_)
  have hP : va_P D vwCl ([(q19, aI cI 3 (upd (fun _ => 0) 0 0)), (q13, aQ cG 1 (fun _ => none)), (h0, oSv 0 500 0 .null .null)]) H := hP
  have hD : va_D A ([(q19, aI cI 3 (upd (fun _ => 0) 0 0)), (q13, aQ cG 1 (fun _ => none)), (h0, oSv 0 500 0 .null .null)]) := hD
  refine lv_dup hx hb dX3_init_25 rfl ?_
  refine lv_iconst (v := 1) hx hb dX3_init_26 (by decide) ?_
  refine lv_iconst (v := 0) hx hb dX3_init_27 (by decide) ?_
  refine sp_iast (i := 1) hx hb hX.1.1 hP hD hS 0 0 rfl rfl (by omega) (by omega) dX3_init_28 (fun H locs hP hD hS => ?_)
  have hP : va_P D vwCl ([(q19, aI cI 3 (upd (upd (fun _ => 0) 0 0) 1 0)), (q13, aQ cG 1 (fun _ => none)), (h0, oSv 0 500 0 .null .null)]) H := hP
  have hD : va_D A ([(q19, aI cI 3 (upd (upd (fun _ => 0) 0 0) 1 0)), (q13, aQ cG 1 (fun _ => none)), (h0, oSv 0 500 0 .null .null)]) := hD
  refine lv_dup hx hb dX3_init_29 rfl ?_
  refine lv_iconst (v := 2) hx hb dX3_init_30 (by decide) ?_
  refine lv_iconst (v := 2) hx hb dX3_init_31 (by decide) ?_
  refine sp_iast (i := 2) hx hb hX.1.1 hP hD hS 0 0 rfl rfl (by omega) (by omega) dX3_init_32 (fun H locs hP hD hS => ?_)
  have hP : va_P D vwCl ([(q19, aI cI 3 (upd (upd (upd (fun _ => 0) 0 0) 1 0) 2 2)), (q13, aQ cG 1 (fun _ => none)), (h0, oSv 0 500 0 .null .null)]) H := hP
  have hD : va_D A ([(q19, aI cI 3 (upd (upd (upd (fun _ => 0) 0 0) 1 0) 2 2)), (q13, aQ cG 1 (fun _ => none)), (h0, oSv 0 500 0 .null .null)]) := hD
  refine pl_gst (i := 0) hx hb hX hP hD hS 1 0 rfl rfl (by decide) (by decide) dX3_init_33 (fun H locs hP hD hS => ?_)
  have hP : va_P D vwCl ([(q19, aI cI 3 (upd (upd (upd (fun _ => 0) 0 0) 1 0) 2 2)), (q13, aQ cG 1 (va_up (fun _ => none) 0 (some q19))), (h0, oSv 0 500 0 .null .null)]) H := hP
  have hD : va_D A ([(q19, aI cI 3 (upd (upd (upd (fun _ => 0) 0 0) 1 0) 2 2)), (q13, aQ cG 1 (va_up (fun _ => none) 0 (some q19))), (h0, oSv 0 500 0 .null .null)]) := hD
  refine va_put (D := D) (ci := 3) (v := .ref q13) (ty := (.array (.array .int))) (C := RX3) (T := TX3) (N := 5) hx hb hts hiX3 tyX3 tyX3_ok nmX3 hown hX.2.1 hP hD hS 2 rfl rfl 3 (by decide) (hts (.fieldLink RX3 15 "SledgeRaceLaw$Sim" "ground" "[[I") (by decide +kernel)) (fun _ h9 => h9) rfl (by decide +kernel) rfl rfl (Nat.le_of_ble_eq_true rfl) dX3_init_34 (fun H locs hP hD hS => ?_)
  have hP : va_P D vwCl ([(q19, aI cI 3 (upd (upd (upd (fun _ => 0) 0 0) 1 0) 2 2)), (q13, aQ cG 1 (va_up (fun _ => none) 0 (some q19))), (h0, oSv 0 500 0 (.ref q13) .null)]) H := hP
  have hD : va_D A ([(q19, aI cI 3 (upd (upd (upd (fun _ => 0) 0 0) 1 0) 2 2)), (q13, aQ cG 1 (va_up (fun _ => none) 0 (some q19))), (h0, oSv 0 500 0 (.ref q13) .null)]) := hD
  refine lv_aload_n hx hb dX3_init_37 rfl (lv_at hl 0 rfl) ?_
  refine lv_iconst (v := 0) hx hb dX3_init_38 (by decide) ?_
  refine pl_newl hx hb hown (hts (.classLink RX3 19 RX4) (by decide +kernel)) hX hP hD hS hA 0 rfl (by decide) (Nat.le_of_ble_eq_true rfl) (Nat.le_of_ble_eq_true rfl) dX3_init_39 (fun q39 H hP hD hS => ?_)
  refine va_put (D := D) (ci := 3) (v := .ref q39) (ty := (.array (.object "SledgeRaceLaw$Team"))) (C := RX3) (T := TX3) (N := 5) hx hb hts hiX3 tyX3 tyX3_ok nmX3 hown hX.2.1 hP hD hS 3 rfl rfl 4 (by decide) (hts (.fieldLink RX3 21 "SledgeRaceLaw$Sim" "teams" "[LSledgeRaceLaw$Team;") (by decide +kernel)) (fun _ h9 => h9) rfl (by decide +kernel) rfl rfl (Nat.le_of_ble_eq_true rfl) dX3_init_42 (fun H locs hP hD hS => ?_)
  have hP : va_P D vwCl ([(q39, aQ cL 0 (fun _ => none)), (q19, aI cI 3 (upd (upd (upd (fun _ => 0) 0 0) 1 0) 2 2)), (q13, aQ cG 1 (va_up (fun _ => none) 0 (some q19))), (h0, oSv 0 500 0 (.ref q13) (.ref q39))]) H := hP
  have hD : va_D A ([(q39, aQ cL 0 (fun _ => none)), (q19, aI cI 3 (upd (upd (upd (fun _ => 0) 0 0) 1 0) 2 2)), (q13, aQ cG 1 (va_up (fun _ => none) 0 (some q19))), (h0, oSv 0 500 0 (.ref q13) (.ref q39))]) := hD
  have hP9 : va_P D vwCl ([(h0, oSv 0 500 0 (.ref q13) (.ref q39)), (q39, aQ cL 0 (fun _ => none)), (q13, aQ cG 1 (va_up (fun _ => none) 0 (some q19))), (q19, aI cI 3 (upd (upd (upd (fun _ => 0) 0 0) 1 0) 2 2))]) H := hP.sub [3, 0, 2, 1] rfl
  have hD9 : va_D A ([(h0, oSv 0 500 0 (.ref q13) (.ref q39)), (q39, aQ cL 0 (fun _ => none)), (q13, aQ cG 1 (va_up (fun _ => none) 0 (some q19))), (q19, aI cI 3 (upd (upd (upd (fun _ => 0) 0 0) 1 0) 2 2))]) := hD.sub [3, 0, 2, 1] (by decide) rfl
  subst hQ
  refine W.widen (k := 3) (n := 4) (by omega) (by omega) ?_
  subst hAe
  exact W.vret hx hb hr (fun t ht hW => ⟨⟨(q13, q39, q19, upd (upd (upd (fun _ => 0) 0 0) 1 0) 2 2), rfl, rfl, by show va_P D vwCl _ t.heap; rw [ht]; exact hP9, hD9⟩, hS.F ht⟩) hS.2.2 dX3_init_45
abbrev rmX4_init : Room := { frames := 1, cells := 2, slots := 2, locals := 12 }
set_option maxHeartbeats 4000000 in
set_option maxRecDepth 100000 in
/-- a new Team of the law -/
theorem mX4_init (l : Launch) (D : va_G) (cI cT cL cG cZ : ClassId) (sz : Nat) (h0 : Nat) : MetK (S := (Nat → Int32) × Nat × Nat) l D cI cT cL cG cZ yX4_init wsX4_init rmX4_init [.ref h0] ([(h0, oYv (fun _ => 0) .null .null .null .null)]) (fun _ => True) (fun u => [(h0, oYv u.1 .null .null (.ref u.2.1) (.ref u.2.2))]) 2 2 sz := by
  refine Met.ofW (cc := cX4_init) (maxL := 1) (ret := none) (by decide) rfl ?_
  intro p e s m args below meth c s₁ B hml hv
  obtain ⟨hargs, hsz, hP, hX, hN⟩ := hv
  subst hsz
  have hx := B.exec
  have hb := B.bytes
  have hr := B.returns
  have hts := atoms_spec (ws := wsX4_init) B.pre
  have hown : s.vm.findClass RX4 = some m.cls := findClass_of_methodNamed B.named
  have hlocks := B.notSynchronized
  have hiX4 : ∀ w ∈ u_ws RX4 TX4 17, w ∈ wsX4_init := by decide +kernel
  have he : entryFrame m args 1 = F0 m 0 ((lg_sl [.ref h0] ++ List.replicate (1 - (lg_sl [.ref h0]).length) Slot.unset).toArray) [] := by rw [hargs]; exact lg_entry_eq m _ _
  rw [he]
  obtain ⟨A, hAe⟩ : ∃ A, A = (frA (List.map Prod.fst ([(h0, oYv (fun _ => 0) .null .null .null .null)])) s.heap.size) := ⟨_, rfl⟩
  change W p l e rmX4_init s m args below meth c s.heap [] 0 0 (MQ below (va_Qv (S := (Nat → Int32) × Nat × Nat) (fun _ => True) (fun u t => va_P D vwCl ((fun u => [(h0, oYv u.1 .null .null (.ref u.2.1) (.ref u.2.2))]) u) t.heap ∧ va_D (frA (List.map Prod.fst ([(h0, oYv (fun _ => 0) .null .null .null .null)])) s.heap.size) ((fun u => [(h0, oYv u.1 .null .null (.ref u.2.1) (.ref u.2.2))]) u)) (frA (List.map Prod.fst ([(h0, oYv (fun _ => 0) .null .null .null .null)])) s.heap.size)) args s 2 2 (frA (List.map Prod.fst ([(h0, oYv (fun _ => 0) .null .null .null .null)])) s.heap.size)) _
  rw [← hAe]
  obtain ⟨Q, hQ⟩ : ∃ Q, Q = MQ below (va_Qv (S := (Nat → Int32) × Nat × Nat) (fun _ => True) (fun u t => va_P D vwCl ((fun u => [(h0, oYv u.1 .null .null (.ref u.2.1) (.ref u.2.2))]) u) t.heap ∧ va_D A ((fun u => [(h0, oYv u.1 .null .null (.ref u.2.1) (.ref u.2.2))]) u)) A) args s 2 2 A := ⟨_, rfl⟩
  rw [← hQ]
  have hl := lv_entry [.ref h0] (n := 1) (Nat.le_of_ble_eq_true rfl)
  generalize (lg_sl [.ref h0] ++ List.replicate (1 - (lg_sl [.ref h0]).length) Slot.unset).toArray = ls at hl ⊢
  have hl : lv_has ls 1 [(0, .ref h0)] := hl
  have hA : ∀ q : Nat, s.heap.size ≤ q → A q := by rw [hAe]; exact fun q h => Or.inr h
  have hD : va_D A (([(h0, oYv (fun _ => 0) .null .null .null .null)])) := sp_D hN (by rw [hAe]; exact fun q h => Or.inl h)
  have hS : va_S A s.heap s.heap [] := va_S.rf
  obtain ⟨H, hH0⟩ : ∃ H, H = s.heap := ⟨_, rfl⟩
  obtain ⟨locs, hlo⟩ : ∃ L : List Loc, L = [] := ⟨_, rfl⟩
  have hP : va_P D vwCl (([(h0, oYv (fun _ => 0) .null .null .null .null)])) H := by rw [hH0]; exact hP
  have hS : va_S A s.heap H locs := by rw [hH0, hlo]; exact hS
  rw [show W p l e rmX4_init s m args below meth c s.heap [] 0 0 Q (F0 m 0 ls []) = W p l e rmX4_init s m args below meth c H locs 0 0 Q (F0 m 0 ls []) by rw [hH0, hlo]]
  clear hH0 hlo
  refine lv_aload_n hx hb dX4_init_0 rfl (lv_at hl 0 rfl) ?_
  refine W.objInit hx hb hown (hts (.methodLink RX4 1 objectInit) (by decide +kernel)) (hts (.instanceMethod objectInit) (by decide +kernel)) (hts _ (List.mem_of_getElem? (i := 3) rfl)) rfl (by rw [hml]; exact hl.1) rfl dX4_init_1 (Nat.le_of_ble_eq_true rfl) (Nat.le_of_ble_eq_true rfl) ?_
  refine W.eq (g2 := F0 m 4 ls []) rfl ?_
  refine lv_aload_n hx hb dX4_init_4 rfl (lv_at hl 0 rfl) ?_
  refine lv_iconst (v := 4) hx hb dX4_init_5 (by decide) ?_
  refine va_put (D := D) (ci := 4) (v := .int 4) (ty := .int) (C := RX4) (T := TX4) (N := 17) hx hb hts hiX4 tyX4 tyX4_ok nmX4 hown hX.2.1 hP hD hS 0 rfl rfl 2 (by decide) (hts (.fieldLink RX4 7 "SledgeRaceLaw$Team" "pullers" "I") (by decide +kernel)) (fun _ h9 => h9) rfl (by decide +kernel) rfl rfl (Nat.le_of_ble_eq_true rfl) dX4_init_6 (fun H locs hP hD hS => ?_)
  have hP : va_P D vwCl ([(h0, oYv (upd (fun _ => 0) 2 4) .null .null .null .null)]) H := hP
  have hD : va_D A ([(h0, oYv (upd (fun _ => 0) 2 4) .null .null .null .null)]) := hD
  refine lv_aload_n hx hb dX4_init_9 rfl (lv_at hl 0 rfl) ?_
  refine lv_bipush (v := 10) hx hb dX4_init_10 (by decide) ?_
  refine va_put (D := D) (ci := 4) (v := .int 10) (ty := .int) (C := RX4) (T := TX4) (N := 17) hx hb hts hiX4 tyX4 tyX4_ok nmX4 hown hX.2.1 hP hD hS 0 rfl rfl 3 (by decide) (hts (.fieldLink RX4 13 "SledgeRaceLaw$Team" "strength" "I") (by decide +kernel)) (fun _ h9 => h9) rfl (by decide +kernel) rfl rfl (Nat.le_of_ble_eq_true rfl) dX4_init_12 (fun H locs hP hD hS => ?_)
  have hP : va_P D vwCl ([(h0, oYv (upd (upd (fun _ => 0) 2 4) 3 10) .null .null .null .null)]) H := hP
  have hD : va_D A ([(h0, oYv (upd (upd (fun _ => 0) 2 4) 3 10) .null .null .null .null)]) := hD
  refine lv_aload_n hx hb dX4_init_15 rfl (lv_at hl 0 rfl) ?_
  refine lv_sipush (v := 200) hx hb dX4_init_16 (by decide) ?_
  refine va_put (D := D) (ci := 4) (v := .int 200) (ty := .int) (C := RX4) (T := TX4) (N := 17) hx hb hts hiX4 tyX4 tyX4_ok nmX4 hown hX.2.1 hP hD hS 0 rfl rfl 4 (by decide) (hts (.fieldLink RX4 16 "SledgeRaceLaw$Team" "ownRope" "I") (by decide +kernel)) (fun _ h9 => h9) rfl (by decide +kernel) rfl rfl (Nat.le_of_ble_eq_true rfl) dX4_init_19 (fun H locs hP hD hS => ?_)
  have hP : va_P D vwCl ([(h0, oYv (upd (upd (upd (fun _ => 0) 2 4) 3 10) 4 200) .null .null .null .null)]) H := hP
  have hD : va_D A ([(h0, oYv (upd (upd (upd (fun _ => 0) 2 4) 3 10) 4 200) .null .null .null .null)]) := hD
  refine lv_aload_n hx hb dX4_init_22 rfl (lv_at hl 0 rfl) ?_
  refine lv_iconst (v := 5) hx hb dX4_init_23 (by decide) ?_
  refine va_put (D := D) (ci := 4) (v := .int 5) (ty := .int) (C := RX4) (T := TX4) (N := 17) hx hb hts hiX4 tyX4 tyX4_ok nmX4 hown hX.2.1 hP hD hS 0 rfl rfl 5 (by decide) (hts (.fieldLink RX4 19 "SledgeRaceLaw$Team" "effort" "I") (by decide +kernel)) (fun _ h9 => h9) rfl (by decide +kernel) rfl rfl (Nat.le_of_ble_eq_true rfl) dX4_init_24 (fun H locs hP hD hS => ?_)
  have hP : va_P D vwCl ([(h0, oYv (upd (upd (upd (upd (fun _ => 0) 2 4) 3 10) 4 200) 5 5) .null .null .null .null)]) H := hP
  have hD : va_D A ([(h0, oYv (upd (upd (upd (upd (fun _ => 0) 2 4) 3 10) 4 200) 5 5) .null .null .null .null)]) := hD
  refine lv_aload_n hx hb dX4_init_27 rfl (lv_at hl 0 rfl) ?_
  refine lv_bipush (v := 10) hx hb dX4_init_28 (by decide) ?_
  refine va_put (D := D) (ci := 4) (v := .int 10) (ty := .int) (C := RX4) (T := TX4) (N := 17) hx hb hts hiX4 tyX4 tyX4_ok nmX4 hown hX.2.1 hP hD hS 0 rfl rfl 6 (by decide) (hts (.fieldLink RX4 22 "SledgeRaceLaw$Team" "gap" "I") (by decide +kernel)) (fun _ h9 => h9) rfl (by decide +kernel) rfl rfl (Nat.le_of_ble_eq_true rfl) dX4_init_30 (fun H locs hP hD hS => ?_)
  have hP : va_P D vwCl ([(h0, oYv (upd (upd (upd (upd (upd (fun _ => 0) 2 4) 3 10) 4 200) 5 5) 6 10) .null .null .null .null)]) H := hP
  have hD : va_D A ([(h0, oYv (upd (upd (upd (upd (upd (fun _ => 0) 2 4) 3 10) 4 200) 5 5) 6 10) .null .null .null .null)]) := hD
  refine lv_aload_n hx hb dX4_init_33 rfl (lv_at hl 0 rfl) ?_
  refine lv_sipush (v := 1000) hx hb dX4_init_34 (by decide) ?_
  refine va_put (D := D) (ci := 4) (v := .int 1000) (ty := .int) (C := RX4) (T := TX4) (N := 17) hx hb hts hiX4 tyX4 tyX4_ok nmX4 hown hX.2.1 hP hD hS 0 rfl rfl 8 (by decide) (hts (.fieldLink RX4 25 "SledgeRaceLaw$Team" "breath" "I") (by decide +kernel)) (fun _ h9 => h9) rfl (by decide +kernel) rfl rfl (Nat.le_of_ble_eq_true rfl) dX4_init_37 (fun H locs hP hD hS => ?_)
  have hP : va_P D vwCl ([(h0, oYv (upd (upd (upd (upd (upd (upd (fun _ => 0) 2 4) 3 10) 4 200) 5 5) 6 10) 8 1000) .null .null .null .null)]) H := hP
  have hD : va_D A ([(h0, oYv (upd (upd (upd (upd (upd (upd (fun _ => 0) 2 4) 3 10) 4 200) 5 5) 6 10) 8 1000) .null .null .null .null)]) := hD
  refine lv_aload_n hx hb dX4_init_40 rfl (lv_at hl 0 rfl) ?_
  refine lv_sipush (v := 200) hx hb dX4_init_41 (by decide) ?_
  refine va_put (D := D) (ci := 4) (v := .int 200) (ty := .int) (C := RX4) (T := TX4) (N := 17) hx hb hts hiX4 tyX4 tyX4_ok nmX4 hown hX.2.1 hP hD hS 0 rfl rfl 9 (by decide) (hts (.fieldLink RX4 28 "SledgeRaceLaw$Team" "rope" "I") (by decide +kernel)) (fun _ h9 => h9) rfl (by decide +kernel) rfl rfl (Nat.le_of_ble_eq_true rfl) dX4_init_44 (fun H locs hP hD hS => ?_)
  have hP : va_P D vwCl ([(h0, oYv (upd (upd (upd (upd (upd (upd (upd (fun _ => 0) 2 4) 3 10) 4 200) 5 5) 6 10) 8 1000) 9 200) .null .null .null .null)]) H := hP
  have hD : va_D A ([(h0, oYv (upd (upd (upd (upd (upd (upd (upd (fun _ => 0) 2 4) 3 10) 4 200) 5 5) 6 10) 8 1000) 9 200) .null .null .null .null)]) := hD
  refine lv_aload_n hx hb dX4_init_47 rfl (lv_at hl 0 rfl) ?_
  refine lv_iconst (v := (-1)) hx hb dX4_init_48 (by decide) ?_
  refine va_put (D := D) (ci := 4) (v := .int (-1)) (ty := .int) (C := RX4) (T := TX4) (N := 17) hx hb hts hiX4 tyX4 tyX4_ok nmX4 hown hX.2.1 hP hD hS 0 rfl rfl 11 (by decide) (hts (.fieldLink RX4 31 "SledgeRaceLaw$Team" "end" "I") (by decide +kernel)) (fun _ h9 => h9) rfl (by decide +kernel) rfl rfl (Nat.le_of_ble_eq_true rfl) dX4_init_49 (fun H locs hP hD hS => ?_)
  have hP : va_P D vwCl ([(h0, oYv (upd (upd (upd (upd (upd (upd (upd (upd (fun _ => 0) 2 4) 3 10) 4 200) 5 5) 6 10) 8 1000) 9 200) 11 (-1)) .null .null .null .null)]) H := hP
  have hD : va_D A ([(h0, oYv (upd (upd (upd (upd (upd (upd (upd (upd (fun _ => 0) 2 4) 3 10) 4 200) 5 5) 6 10) 8 1000) 9 200) 11 (-1)) .null .null .null .null)]) := hD
  refine lv_aload_n hx hb dX4_init_52 rfl (lv_at hl 0 rfl) ?_
  refine lv_iconst (v := 1) hx hb dX4_init_53 (by decide) ?_
  refine pl_newi hx hb (hts (.arrayClass .int) (by decide +kernel)) hX.1 hP hD hS hA 1 rfl (by omega) (Nat.le_of_ble_eq_true rfl) (Nat.le_of_ble_eq_true rfl) dX4_init_54 (fun q54 H hP hD hS => ?_)
  refine lv_dup hx hb dX4_init_56 rfl ?_
  refine lv_iconst (v := 0) hx hb dX4_init_57 (by decide) ?_
  refine lv_iconst (v := (-1)) hx hb dX4_init_58 (by decide) ?_
  refine sp_iast (i := 0) hx hb hX.1.1 hP hD hS 0 0 rfl rfl (by omega) (by omega) dX4_init_59 (fun H locs hP hD hS => ?_)
  have hP : va_P D vwCl ([(q54, aI cI 1 (upd (fun _ => 0) 0 (-1))), (h0, oYv (upd (upd (upd (upd (upd (upd (upd (upd (fun _ => 0) 2 4) 3 10) 4 200) 5 5) 6 10) 8 1000) 9 200) 11 (-1)) .null .null .null .null)]) H := hP
  have hD : va_D A ([(q54, aI cI 1 (upd (fun _ => 0) 0 (-1))), (h0, oYv (upd (upd (upd (upd (upd (upd (upd (upd (fun _ => 0) 2 4) 3 10) 4 200) 5 5) 6 10) 8 1000) 9 200) 11 (-1)) .null .null .null .null)]) := hD
  refine va_put (D := D) (ci := 4) (v := .ref q54) (ty := (.array .int)) (C := RX4) (T := TX4) (N := 17) hx hb hts hiX4 tyX4 tyX4_ok nmX4 hown hX.2.1 hP hD hS 1 rfl rfl 15 (by decide) (hts (.fieldLink RX4 34 "SledgeRaceLaw$Team" "held" "[I") (by decide +kernel)) (fun _ h9 => h9) rfl (by decide +kernel) rfl rfl (Nat.le_of_ble_eq_true rfl) dX4_init_60 (fun H locs hP hD hS => ?_)
  have hP : va_P D vwCl ([(q54, aI cI 1 (upd (fun _ => 0) 0 (-1))), (h0, oYv (upd (upd (upd (upd (upd (upd (upd (upd (fun _ => 0) 2 4) 3 10) 4 200) 5 5) 6 10) 8 1000) 9 200) 11 (-1)) .null .null (.ref q54) .null)]) H := hP
  have hD : va_D A ([(q54, aI cI 1 (upd (fun _ => 0) 0 (-1))), (h0, oYv (upd (upd (upd (upd (upd (upd (upd (upd (fun _ => 0) 2 4) 3 10) 4 200) 5 5) 6 10) 8 1000) 9 200) 11 (-1)) .null .null (.ref q54) .null)]) := hD
  refine lv_aload_n hx hb dX4_init_63 rfl (lv_at hl 0 rfl) ?_
  refine lv_iconst (v := 1) hx hb dX4_init_64 (by decide) ?_
  refine pl_newi hx hb (hts (.arrayClass .int) (by decide +kernel)) hX.1 hP hD hS hA 1 rfl (by omega) (Nat.le_of_ble_eq_true rfl) (Nat.le_of_ble_eq_true rfl) dX4_init_65 (fun q65 H hP hD hS => ?_)
  refine lv_dup hx hb dX4_init_67 rfl ?_
  refine lv_iconst (v := 0) hx hb dX4_init_68 (by decide) ?_
  refine lv_iconst (v := 0) hx hb dX4_init_69 (by decide) ?_
  refine sp_iast (i := 0) hx hb hX.1.1 hP hD hS 0 0 rfl rfl (by omega) (by omega) dX4_init_70 (fun H locs hP hD hS => ?_)
  have hP : va_P D vwCl ([(q65, aI cI 1 (upd (fun _ => 0) 0 0)), (q54, aI cI 1 (upd (fun _ => 0) 0 (-1))), (h0, oYv (upd (upd (upd (upd (upd (upd (upd (upd (fun _ => 0) 2 4) 3 10) 4 200) 5 5) 6 10) 8 1000) 9 200) 11 (-1)) .null .null (.ref q54) .null)]) H := hP
  have hD : va_D A ([(q65, aI cI 1 (upd (fun _ => 0) 0 0)), (q54, aI cI 1 (upd (fun _ => 0) 0 (-1))), (h0, oYv (upd (upd (upd (upd (upd (upd (upd (upd (fun _ => 0) 2 4) 3 10) 4 200) 5 5) 6 10) 8 1000) 9 200) 11 (-1)) .null .null (.ref q54) .null)]) := hD
  refine va_put (D := D) (ci := 4) (v := .ref q65) (ty := (.array .int)) (C := RX4) (T := TX4) (N := 17) hx hb hts hiX4 tyX4 tyX4_ok nmX4 hown hX.2.1 hP hD hS 2 rfl rfl 16 (by decide) (hts (.fieldLink RX4 38 "SledgeRaceLaw$Team" "left" "[I") (by decide +kernel)) (fun _ h9 => h9) rfl (by decide +kernel) rfl rfl (Nat.le_of_ble_eq_true rfl) dX4_init_71 (fun H locs hP hD hS => ?_)
  have hP : va_P D vwCl ([(q65, aI cI 1 (upd (fun _ => 0) 0 0)), (q54, aI cI 1 (upd (fun _ => 0) 0 (-1))), (h0, oYv (upd (upd (upd (upd (upd (upd (upd (upd (fun _ => 0) 2 4) 3 10) 4 200) 5 5) 6 10) 8 1000) 9 200) 11 (-1)) .null .null (.ref q54) (.ref q65))]) H := hP
  have hD : va_D A ([(q65, aI cI 1 (upd (fun _ => 0) 0 0)), (q54, aI cI 1 (upd (fun _ => 0) 0 (-1))), (h0, oYv (upd (upd (upd (upd (upd (upd (upd (upd (fun _ => 0) 2 4) 3 10) 4 200) 5 5) 6 10) 8 1000) 9 200) 11 (-1)) .null .null (.ref q54) (.ref q65))]) := hD
  have hP9 : va_P D vwCl ([(h0, oYv (upd (upd (upd (upd (upd (upd (upd (upd (fun _ => 0) 2 4) 3 10) 4 200) 5 5) 6 10) 8 1000) 9 200) 11 (-1)) .null .null (.ref q54) (.ref q65))]) H := hP.sub [2] rfl
  have hD9 : va_D A ([(h0, oYv (upd (upd (upd (upd (upd (upd (upd (upd (fun _ => 0) 2 4) 3 10) 4 200) 5 5) 6 10) 8 1000) 9 200) 11 (-1)) .null .null (.ref q54) (.ref q65))]) := hD.sub [2] (by decide) rfl
  subst hQ
  refine W.widen (k := 2) (n := 2) (by omega) (by omega) ?_
  subst hAe
  exact W.vret hx hb hr (fun t ht hW => ⟨⟨(upd (upd (upd (upd (upd (upd (upd (upd (fun _ => 0) 2 4) 3 10) 4 200) 5 5) 6 10) 8 1000) 9 200) 11 (-1), q54, q65), rfl, trivial, by show va_P D vwCl _ t.heap; rw [ht]; exact hP9, hD9⟩, hS.F ht⟩) hS.2.2 dX4_init_74
abbrev rmX4_begin : Room := { frames := 0, cells := 1, slots := 8, locals := 0 }
set_option maxHeartbeats 4000000 in
set_option maxRecDepth 100000 in
/-- a team begins -/
theorem mX4_begin (l : Launch) (D : va_G) (cI cT cL cG cZ : ClassId) (sz : Nat) (h0 ra ha nr nh : Nat) (hnr : nr ≤ 8) (hnh : nh ≤ 3) (ca lf : Value) (F P G : Nat → Int32) : MetK (S := (Nat → Int32) × Nat × (Nat → Int32) × (Nat → Int32)) l D cI cT cL cG cZ yX4_begin wsX4_begin rmX4_begin [.ref h0] ([(h0, oYv F (.ref ra) ca (.ref ha) lf), (ra, aI cI nr P), (ha, aI cI nh G)]) (fun u => u.1 0 = F 0 ∧ u.1 1 = F 1) (fun u => [(h0, oYv u.1 (.ref ra) (.ref u.2.1) (.ref ha) lf), (ra, aI cI nr u.2.2.1), (ha, aI cI nh u.2.2.2)]) 1 8 sz := by
  refine Met.ofW (cc := cX4_begin) (maxL := 2) (ret := none) (by decide) rfl ?_
  intro p e s m args below meth c s₁ B hml hv
  obtain ⟨hargs, hsz, hP, hX, hN⟩ := hv
  subst hsz
  have hx := B.exec
  have hb := B.bytes
  have hr := B.returns
  have hts := atoms_spec (ws := wsX4_begin) B.pre
  have hown : s.vm.findClass RX4 = some m.cls := findClass_of_methodNamed B.named
  have hlocks := B.notSynchronized
  have hiX4 : ∀ w ∈ u_ws RX4 TX4 17, w ∈ wsX4_begin := by decide +kernel
  have he : entryFrame m args 2 = F0 m 0 ((lg_sl [.ref h0] ++ List.replicate (2 - (lg_sl [.ref h0]).length) Slot.unset).toArray) [] := by rw [hargs]; exact lg_entry_eq m _ _
  rw [he]
  obtain ⟨A, hAe⟩ : ∃ A, A = (frA (List.map Prod.fst ([(h0, oYv F (.ref ra) ca (.ref ha) lf), (ra, aI cI nr P), (ha, aI cI nh G)])) s.heap.size) := ⟨_, rfl⟩
  change W p l e rmX4_begin s m args below meth c s.heap [] 0 0 (MQ below (va_Qv (S := (Nat → Int32) × Nat × (Nat → Int32) × (Nat → Int32)) (fun u => u.1 0 = F 0 ∧ u.1 1 = F 1) (fun u t => va_P D vwCl ((fun u => [(h0, oYv u.1 (.ref ra) (.ref u.2.1) (.ref ha) lf), (ra, aI cI nr u.2.2.1), (ha, aI cI nh u.2.2.2)]) u) t.heap ∧ va_D (frA (List.map Prod.fst ([(h0, oYv F (.ref ra) ca (.ref ha) lf), (ra, aI cI nr P), (ha, aI cI nh G)])) s.heap.size) ((fun u => [(h0, oYv u.1 (.ref ra) (.ref u.2.1) (.ref ha) lf), (ra, aI cI nr u.2.2.1), (ha, aI cI nh u.2.2.2)]) u)) (frA (List.map Prod.fst ([(h0, oYv F (.ref ra) ca (.ref ha) lf), (ra, aI cI nr P), (ha, aI cI nh G)])) s.heap.size)) args s 1 8 (frA (List.map Prod.fst ([(h0, oYv F (.ref ra) ca (.ref ha) lf), (ra, aI cI nr P), (ha, aI cI nh G)])) s.heap.size)) _
  rw [← hAe]
  obtain ⟨Q, hQ⟩ : ∃ Q, Q = MQ below (va_Qv (S := (Nat → Int32) × Nat × (Nat → Int32) × (Nat → Int32)) (fun u => u.1 0 = F 0 ∧ u.1 1 = F 1) (fun u t => va_P D vwCl ((fun u => [(h0, oYv u.1 (.ref ra) (.ref u.2.1) (.ref ha) lf), (ra, aI cI nr u.2.2.1), (ha, aI cI nh u.2.2.2)]) u) t.heap ∧ va_D A ((fun u => [(h0, oYv u.1 (.ref ra) (.ref u.2.1) (.ref ha) lf), (ra, aI cI nr u.2.2.1), (ha, aI cI nh u.2.2.2)]) u)) A) args s 1 8 A := ⟨_, rfl⟩
  rw [← hQ]
  have hl := lv_entry [.ref h0] (n := 2) (Nat.le_of_ble_eq_true rfl)
  generalize (lg_sl [.ref h0] ++ List.replicate (2 - (lg_sl [.ref h0]).length) Slot.unset).toArray = ls at hl ⊢
  have hl : lv_has ls 2 [(0, .ref h0)] := hl
  have hA : ∀ q : Nat, s.heap.size ≤ q → A q := by rw [hAe]; exact fun q h => Or.inr h
  have hD : va_D A (([(h0, oYv F (.ref ra) ca (.ref ha) lf), (ra, aI cI nr P), (ha, aI cI nh G)])) := sp_D hN (by rw [hAe]; exact fun q h => Or.inl h)
  have hS : va_S A s.heap s.heap [] := va_S.rf
  obtain ⟨H, hH0⟩ : ∃ H, H = s.heap := ⟨_, rfl⟩
  obtain ⟨locs, hlo⟩ : ∃ L : List Loc, L = [] := ⟨_, rfl⟩
  have hP : va_P D vwCl (([(h0, oYv F (.ref ra) ca (.ref ha) lf), (ra, aI cI nr P), (ha, aI cI nh G)])) H := by rw [hH0]; exact hP
  have hS : va_S A s.heap H locs := by rw [hH0, hlo]; exact hS
  rw [show W p l e rmX4_begin s m args below meth c s.heap [] 0 0 Q (F0 m 0 ls []) = W p l e rmX4_begin s m args below meth c H locs 0 0 Q (F0 m 0 ls []) by rw [hH0, hlo]]
  clear hH0 hlo
  refine lv_aload_n hx hb dX4_begin_0 rfl (lv_at hl 0 rfl) ?_
  refine lv_iconst (v := 0) hx hb dX4_begin_1 (by decide) ?_
  refine va_put (D := D) (ci := 4) (v := .int 0) (ty := .int) (C := RX4) (T := TX4) (N := 17) hx hb hts hiX4 tyX4 tyX4_ok nmX4 hown hX.2.1 hP hD hS 0 rfl rfl 7 (by decide) (hts (.fieldLink RX4 41 "SledgeRaceLaw$Team" "front" "I") (by decide +kernel)) (fun _ h9 => h9) rfl (by decide +kernel) rfl rfl (Nat.le_of_ble_eq_true rfl) dX4_begin_2 (fun H locs hP hD hS => ?_)
  have hP : va_P D vwCl ([(h0, oYv (upd (F) 7 0) (.ref ra) ca (.ref ha) lf), (ra, aI cI nr P), (ha, aI cI nh G)]) H := hP
  have hD : va_D A ([(h0, oYv (upd (F) 7 0) (.ref ra) ca (.ref ha) lf), (ra, aI cI nr P), (ha, aI cI nh G)]) := hD
  refine lv_aload_n hx hb dX4_begin_5 rfl (lv_at hl 0 rfl) ?_
  refine lv_sipush (v := 1000) hx hb dX4_begin_6 (by decide) ?_
  refine va_put (D := D) (ci := 4) (v := .int 1000) (ty := .int) (C := RX4) (T := TX4) (N := 17) hx hb hts hiX4 tyX4 tyX4_ok nmX4 hown hX.2.1 hP hD hS 0 rfl rfl 8 (by decide) (hts (.fieldLink RX4 25 "SledgeRaceLaw$Team" "breath" "I") (by decide +kernel)) (fun _ h9 => h9) rfl (by decide +kernel) rfl rfl (Nat.le_of_ble_eq_true rfl) dX4_begin_9 (fun H locs hP hD hS => ?_)
  have hP : va_P D vwCl ([(h0, oYv (upd (upd (F) 7 0) 8 1000) (.ref ra) ca (.ref ha) lf), (ra, aI cI nr P), (ha, aI cI nh G)]) H := hP
  have hD : va_D A ([(h0, oYv (upd (upd (F) 7 0) 8 1000) (.ref ra) ca (.ref ha) lf), (ra, aI cI nr P), (ha, aI cI nh G)]) := hD
  refine lv_aload_n hx hb dX4_begin_12 rfl (lv_at hl 0 rfl) ?_
  refine lv_aload_n hx hb dX4_begin_13 rfl (lv_at hl 0 rfl) ?_
  refine va_get (D := D) (ci := 4) (v := .int (F 4)) (C := RX4) (T := TX4) (N := 17) hx hb hts hiX4 hown hX.2.1 hP 0 rfl rfl 4 (by decide) (hts (.fieldLink RX4 16 "SledgeRaceLaw$Team" "ownRope" "I") (by decide +kernel)) (fun _ h9 => h9) rfl dX4_begin_14 ?_
  refine va_put (D := D) (ci := 4) (v := .int (F 4)) (ty := .int) (C := RX4) (T := TX4) (N := 17) hx hb hts hiX4 tyX4 tyX4_ok nmX4 hown hX.2.1 hP hD hS 0 rfl rfl 9 (by decide) (hts (.fieldLink RX4 28 "SledgeRaceLaw$Team" "rope" "I") (by decide +kernel)) (fun _ h9 => h9) rfl (by decide +kernel) rfl rfl (Nat.le_of_ble_eq_true rfl) dX4_begin_17 (fun H locs hP hD hS => ?_)
  have hP : va_P D vwCl ([(h0, oYv (upd (upd (upd (F) 7 0) 8 1000) 9 (F 4)) (.ref ra) ca (.ref ha) lf), (ra, aI cI nr P), (ha, aI cI nh G)]) H := hP
  have hD : va_D A ([(h0, oYv (upd (upd (upd (F) 7 0) 8 1000) 9 (F 4)) (.ref ra) ca (.ref ha) lf), (ra, aI cI nr P), (ha, aI cI nh G)]) := hD
  refine lv_aload_n hx hb dX4_begin_20 rfl (lv_at hl 0 rfl) ?_
  refine lv_iconst (v := 0) hx hb dX4_begin_21 (by decide) ?_
  refine va_put (D := D) (ci := 4) (v := .int 0) (ty := .int) (C := RX4) (T := TX4) (N := 17) hx hb hts hiX4 tyX4 tyX4_ok nmX4 hown hX.2.1 hP hD hS 0 rfl rfl 10 (by decide) (hts (.fieldLink RX4 44 "SledgeRaceLaw$Team" "knots" "I") (by decide +kernel)) (fun _ h9 => h9) rfl (by decide +kernel) rfl rfl (Nat.le_of_ble_eq_true rfl) dX4_begin_22 (fun H locs hP hD hS => ?_)
  have hP : va_P D vwCl ([(h0, oYv (upd (upd (upd (upd (F) 7 0) 8 1000) 9 (F 4)) 10 0) (.ref ra) ca (.ref ha) lf), (ra, aI cI nr P), (ha, aI cI nh G)]) H := hP
  have hD : va_D A ([(h0, oYv (upd (upd (upd (upd (F) 7 0) 8 1000) 9 (F 4)) 10 0) (.ref ra) ca (.ref ha) lf), (ra, aI cI nr P), (ha, aI cI nh G)]) := hD
  refine lv_aload_n hx hb dX4_begin_25 rfl (lv_at hl 0 rfl) ?_
  refine lv_iconst (v := (-1)) hx hb dX4_begin_26 (by decide) ?_
  refine va_put (D := D) (ci := 4) (v := .int (-1)) (ty := .int) (C := RX4) (T := TX4) (N := 17) hx hb hts hiX4 tyX4 tyX4_ok nmX4 hown hX.2.1 hP hD hS 0 rfl rfl 11 (by decide) (hts (.fieldLink RX4 31 "SledgeRaceLaw$Team" "end" "I") (by decide +kernel)) (fun _ h9 => h9) rfl (by decide +kernel) rfl rfl (Nat.le_of_ble_eq_true rfl) dX4_begin_27 (fun H locs hP hD hS => ?_)
  have hP : va_P D vwCl ([(h0, oYv (upd (upd (upd (upd (upd (F) 7 0) 8 1000) 9 (F 4)) 10 0) 11 (-1)) (.ref ra) ca (.ref ha) lf), (ra, aI cI nr P), (ha, aI cI nh G)]) H := hP
  have hD : va_D A ([(h0, oYv (upd (upd (upd (upd (upd (F) 7 0) 8 1000) 9 (F 4)) 10 0) 11 (-1)) (.ref ra) ca (.ref ha) lf), (ra, aI cI nr P), (ha, aI cI nh G)]) := hD
  refine lv_aload_n hx hb dX4_begin_30 rfl (lv_at hl 0 rfl) ?_
  refine lv_iconst (v := 0) hx hb dX4_begin_31 (by decide) ?_
  refine va_put (D := D) (ci := 4) (v := .int 0) (ty := .int) (C := RX4) (T := TX4) (N := 17) hx hb hts hiX4 tyX4 tyX4_ok nmX4 hown hX.2.1 hP hD hS 0 rfl rfl 12 (by decide) (hts (.fieldLink RX4 47 "SledgeRaceLaw$Team" "way" "I") (by decide +kernel)) (fun _ h9 => h9) rfl (by decide +kernel) rfl rfl (Nat.le_of_ble_eq_true rfl) dX4_begin_32 (fun H locs hP hD hS => ?_)
  have hP : va_P D vwCl ([(h0, oYv (upd (upd (upd (upd (upd (upd (F) 7 0) 8 1000) 9 (F 4)) 10 0) 11 (-1)) 12 0) (.ref ra) ca (.ref ha) lf), (ra, aI cI nr P), (ha, aI cI nh G)]) H := hP
  have hD : va_D A ([(h0, oYv (upd (upd (upd (upd (upd (upd (F) 7 0) 8 1000) 9 (F 4)) 10 0) 11 (-1)) 12 0) (.ref ra) ca (.ref ha) lf), (ra, aI cI nr P), (ha, aI cI nh G)]) := hD
  refine lv_aload_n hx hb dX4_begin_35 rfl (lv_at hl 0 rfl) ?_
  refine lv_aload_n hx hb dX4_begin_36 rfl (lv_at hl 0 rfl) ?_
  refine va_get (D := D) (ci := 4) (v := .ref ra) (C := RX4) (T := TX4) (N := 17) hx hb hts hiX4 hown hX.2.1 hP 0 rfl rfl 13 (by decide) (hts (.fieldLink RX4 50 "SledgeRaceLaw$Team" "rollers" "[I") (by decide +kernel)) (fun _ h9 => h9) rfl dX4_begin_37 ?_
  refine va_alen hx hb hX.2.1 hP 1 0 rfl rfl (v := nI nr) rfl dX4_begin_40 ?_
  refine pl_newz hx hb (hts (.arrayClass .boolean) (by decide +kernel)) hX hP hD hS hA nr rfl (by omega) (Nat.le_of_ble_eq_true rfl) (show 0 + nr ≤ 8 by omega) dX4_begin_41 (fun q41 H hP hD hS => ?_)
  refine va_put (D := D) (ci := 4) (v := .ref q41) (ty := (.array .boolean)) (C := RX4) (T := TX4) (N := 17) hx hb hts hiX4 tyX4 tyX4_ok nmX4 hown hX.2.1 hP hD hS 1 rfl rfl 14 (by decide) (hts (.fieldLink RX4 53 "SledgeRaceLaw$Team" "areCarried" "[Z") (by decide +kernel)) (fun _ h9 => h9) rfl (by decide +kernel) rfl rfl (Nat.le_of_ble_eq_true rfl) dX4_begin_43 (fun H locs hP hD hS => ?_)
  have hP := pl_tl hP
  have hD := pl_tlD hD
  have hP : va_P D vwCl ([(h0, oYv (upd (upd (upd (upd (upd (upd (F) 7 0) 8 1000) 9 (F 4)) 10 0) 11 (-1)) 12 0) (.ref ra) (.ref q41) (.ref ha) lf), (ra, aI cI nr P), (ha, aI cI nh G)]) H := hP
  have hD : va_D A ([(h0, oYv (upd (upd (upd (upd (upd (upd (F) 7 0) 8 1000) 9 (F 4)) 10 0) 11 (-1)) 12 0) (.ref ra) (.ref q41) (.ref ha) lf), (ra, aI cI nr P), (ha, aI cI nh G)]) := hD
  obtain ⟨F2, hF2⟩ : ∃ F2, F2 = upd (upd (upd (upd (upd (upd (F) 7 0) 8 1000) 9 (F 4)) 10 0) 11 (-1)) 12 0 := ⟨_, rfl⟩
  have hF20 : F2 0 = F 0 ∧ F2 1 = F 1 := by rw [hF2]; exact ⟨rfl, rfl⟩
  have hP : va_P D vwCl ([(h0, oYv (F2) (.ref ra) (.ref q41) (.ref ha) lf), (ra, aI cI nr P), (ha, aI cI nh G)]) H := by rw [hF2]; exact hP
  have hD : va_D A ([(h0, oYv (F2) (.ref ra) (.ref q41) (.ref ha) lf), (ra, aI cI nr P), (ha, aI cI nh G)]) := by rw [hF2]; exact hD
  clear hF2
  have loop88 : ∀ (fu k : Nat), nh - k < fu → k ≤ nh → ∀ (P G : Nat → Int32) (H : Heap) (locs : List Loc), va_P D vwCl ([(h0, oYv F2 (.ref ra) (.ref q41) (.ref ha) lf), (ra, aI cI nr P), (ha, aI cI nh G)]) H → va_D A ([(h0, oYv F2 (.ref ra) (.ref q41) (.ref ha) lf), (ra, aI cI nr P), (ha, aI cI nh G)]) → va_S A s.heap H locs → ∀ (ls : Array Slot), lv_has ls 2 [(1, .int (nI k)), (0, .ref h0)] → W p l e rmX4_begin s m args below meth c H locs (0 + 1) (0 + nr) Q (F0 m 88 ls []) := by
    intro fu
    induction fu with
    | zero => intro k hfu; exact absurd hfu (Nat.not_lt_zero _)
    | succ fu ih =>
      intro k hfu hk P G H locs hP hD hS ls hl
      refine lv_iload_n hx hb dX4_begin_88 rfl (lv_at hl 0 rfl) ?_
      refine lv_aload_n hx hb dX4_begin_89 rfl (lv_at hl 1 rfl) ?_
      refine va_get (D := D) (ci := 4) (v := .ref ha) (C := RX4) (T := TX4) (N := 17) hx hb hts hiX4 hown hX.2.1 hP 0 rfl rfl 15 (by decide) (hts (.fieldLink RX4 34 "SledgeRaceLaw$Team" "held" "[I") (by decide +kernel)) (fun _ h9 => h9) rfl dX4_begin_90 ?_
      refine va_alen hx hb hX.2.1 hP 2 0 rfl rfl (v := nI nh) rfl dX4_begin_93 ?_
      refine sp_ge (by omega) (by omega) (tgt := 110) hx hb dX4_begin_94 (by decide) (fun c => ?_) (fun c => ?_)
      · skip
        have hP9 : va_P D vwCl ([(h0, oYv F2 (.ref ra) (.ref q41) (.ref ha) lf), (ra, aI cI nr P), (ha, aI cI nh G)]) H := hP
        have hD9 : va_D A ([(h0, oYv F2 (.ref ra) (.ref q41) (.ref ha) lf), (ra, aI cI nr P), (ha, aI cI nh G)]) := hD
        subst hQ
        refine W.widen (k := 1) (n := 8) (by omega) (by omega) ?_
        subst hAe
        exact W.vret hx hb hr (fun t ht hW => ⟨⟨(F2, q41, P, G), rfl, hF20, by show va_P D vwCl _ t.heap; rw [ht]; exact hP9, hD9⟩, hS.F ht⟩) hS.2.2 dX4_begin_110
      · skip
        refine lv_aload_n hx hb dX4_begin_97 rfl (lv_at hl 1 rfl) ?_
        refine va_get (D := D) (ci := 4) (v := .ref ha) (C := RX4) (T := TX4) (N := 17) hx hb hts hiX4 hown hX.2.1 hP 0 rfl rfl 15 (by decide) (hts (.fieldLink RX4 34 "SledgeRaceLaw$Team" "held" "[I") (by decide +kernel)) (fun _ h9 => h9) rfl dX4_begin_98 ?_
        refine lv_iload_n hx hb dX4_begin_101 rfl (lv_at hl 0 rfl) ?_
        refine lv_iconst (v := (-1)) hx hb dX4_begin_102 (by decide) ?_
        refine sp_iast hx hb hX.1.1 hP hD hS 2 0 rfl rfl (by omega) (by omega) dX4_begin_103 (fun H locs hP hD hS => ?_)
        have hP : va_P D vwCl ([(h0, oYv F2 (.ref ra) (.ref q41) (.ref ha) lf), (ra, aI cI nr P), (ha, aI cI nh (upd G k (-1)))]) H := hP
        have hD : va_D A ([(h0, oYv F2 (.ref ra) (.ref q41) (.ref ha) lf), (ra, aI cI nr P), (ha, aI cI nh (upd G k (-1)))]) := hD
        refine lv_iinc (v := nI (k + 1)) (lv' := [(1, .int (nI (k + 1))), (0, .ref h0)]) hx hb dX4_begin_104 hl (k := 0) rfl ((nI_1 k)) (by decide) rfl (fun ls hl => ?_)
        refine lv_goto (tgt := 88) hx hb dX4_begin_107 (by decide) ?_
        exact ih (k + 1) (by omega) (by omega) _ _ H locs hP hD hS ls hl
  have loop48 : ∀ (fu k : Nat), nr - k < fu → k ≤ nr → ∀ (P G : Nat → Int32) (H : Heap) (locs : List Loc), va_P D vwCl ([(h0, oYv F2 (.ref ra) (.ref q41) (.ref ha) lf), (ra, aI cI nr P), (ha, aI cI nh G)]) H → va_D A ([(h0, oYv F2 (.ref ra) (.ref q41) (.ref ha) lf), (ra, aI cI nr P), (ha, aI cI nh G)]) → va_S A s.heap H locs → ∀ (ls : Array Slot), lv_has ls 2 [(1, .int (nI k)), (0, .ref h0)] → W p l e rmX4_begin s m args below meth c H locs (0 + 1) (0 + nr) Q (F0 m 48 ls []) := by
    intro fu
    induction fu with
    | zero => intro k hfu; exact absurd hfu (Nat.not_lt_zero _)
    | succ fu ih =>
      intro k hfu hk P G H locs hP hD hS ls hl
      refine lv_iload_n hx hb dX4_begin_48 rfl (lv_at hl 0 rfl) ?_
      refine lv_aload_n hx hb dX4_begin_49 rfl (lv_at hl 1 rfl) ?_
      refine va_get (D := D) (ci := 4) (v := .ref ra) (C := RX4) (T := TX4) (N := 17) hx hb hts hiX4 hown hX.2.1 hP 0 rfl rfl 13 (by decide) (hts (.fieldLink RX4 50 "SledgeRaceLaw$Team" "rollers" "[I") (by decide +kernel)) (fun _ h9 => h9) rfl dX4_begin_50 ?_
      refine va_alen hx hb hX.2.1 hP 1 0 rfl rfl (v := nI nr) rfl dX4_begin_53 ?_
      refine sp_ge (by omega) (by omega) (tgt := 86) hx hb dX4_begin_54 (by decide) (fun c => ?_) (fun c => ?_)
      · skip
        refine lv_iconst (v := nI 0) hx hb dX4_begin_86 (by decide) ?_
        refine lv_istore_n (lv' := [(1, .int (nI 0)), (0, .ref h0)]) hx hb dX4_begin_87 rfl hl (by decide) rfl (fun ls hl => ?_)
        exact loop88 _ 0 (Nat.lt_succ_self _) (Nat.zero_le _) P G H locs hP hD hS ls (lv_sub hl [0, 1] rfl)
      · skip
        refine lv_aload_n hx hb dX4_begin_57 rfl (lv_at hl 1 rfl) ?_
        refine va_get (D := D) (ci := 4) (v := .ref ra) (C := RX4) (T := TX4) (N := 17) hx hb hts hiX4 hown hX.2.1 hP 0 rfl rfl 13 (by decide) (hts (.fieldLink RX4 50 "SledgeRaceLaw$Team" "rollers" "[I") (by decide +kernel)) (fun _ h9 => h9) rfl dX4_begin_58 ?_
        refine lv_iload_n hx hb dX4_begin_61 rfl (lv_at hl 0 rfl) ?_
        refine lv_iload_n hx hb dX4_begin_62 rfl (lv_at hl 0 rfl) ?_
        refine lv_iconst (v := 1) hx hb dX4_begin_63 (by decide) ?_
        refine lv_iadd hx hb dX4_begin_64 ?_
        refine sp_top (show (nI k) + 1 = nI (k + 1) from nI_add k 1) ?_
        refine lv_aload_n hx hb dX4_begin_65 rfl (lv_at hl 1 rfl) ?_
        refine va_get (D := D) (ci := 4) (v := .int (F2 0)) (C := RX4) (T := TX4) (N := 17) hx hb hts hiX4 hown hX.2.1 hP 0 rfl rfl 0 (by decide) (hts (.fieldLink RX4 57 "SledgeRaceLaw$Team" "length" "I") (by decide +kernel)) (fun _ h9 => h9) rfl dX4_begin_66 ?_
        refine lv_imul hx hb dX4_begin_69 ?_
        refine lv_aload_n hx hb dX4_begin_70 rfl (lv_at hl 1 rfl) ?_
        refine va_get (D := D) (ci := 4) (v := .ref ra) (C := RX4) (T := TX4) (N := 17) hx hb hts hiX4 hown hX.2.1 hP 0 rfl rfl 13 (by decide) (hts (.fieldLink RX4 50 "SledgeRaceLaw$Team" "rollers" "[I") (by decide +kernel)) (fun _ h9 => h9) rfl dX4_begin_71 ?_
        refine va_alen hx hb hX.2.1 hP 1 0 rfl rfl (v := nI nr) rfl dX4_begin_74 ?_
        refine lv_iconst (v := 1) hx hb dX4_begin_75 (by decide) ?_
        refine lv_iadd hx hb dX4_begin_76 ?_
        refine sp_top (show (nI nr) + 1 = nI (nr + 1) from nI_add nr 1) ?_
        refine lv_idiv hx hb dX4_begin_77 (nI_ne0 (by omega) (by omega)) ?_
        refine lv_ineg hx hb dX4_begin_78 ?_
        refine sp_iast hx hb hX.1.1 hP hD hS 1 0 rfl rfl (by omega) (by omega) dX4_begin_79 (fun H locs hP hD hS => ?_)
        have hP : va_P D vwCl ([(h0, oYv F2 (.ref ra) (.ref q41) (.ref ha) lf), (ra, aI cI nr (upd P k (-(((nI (k + 1)) * (F2 0)) / (nI (nr + 1)))))), (ha, aI cI nh G)]) H := hP
        have hD : va_D A ([(h0, oYv F2 (.ref ra) (.ref q41) (.ref ha) lf), (ra, aI cI nr (upd P k (-(((nI (k + 1)) * (F2 0)) / (nI (nr + 1)))))), (ha, aI cI nh G)]) := hD
        refine lv_iinc (v := nI (k + 1)) (lv' := [(1, .int (nI (k + 1))), (0, .ref h0)]) hx hb dX4_begin_80 hl (k := 0) rfl ((nI_1 k)) (by decide) rfl (fun ls hl => ?_)
        refine lv_goto (tgt := 48) hx hb dX4_begin_83 (by decide) ?_
        exact ih (k + 1) (by omega) (by omega) _ _ H locs hP hD hS ls hl
  refine lv_iconst (v := nI 0) hx hb dX4_begin_46 (by decide) ?_
  refine lv_istore_n (lv' := [(1, .int (nI 0)), (0, .ref h0)]) hx hb dX4_begin_47 rfl hl (by decide) rfl (fun ls hl => ?_)
  exact loop48 _ 0 (Nat.lt_succ_self _) (Nat.zero_le _) P G H locs hP hD hS ls (lv_sub hl [0, 1] rfl)
