/-! p20: the law's own cells go ahead of the race's; rows of rows; the race is called behind other cells -/
abbrev oSv (x y z : Int32) (a b : Value) : va_E := .inr (3, [.int x, .int y, .int z, a, b])
abbrev oYv (F : Nat → Int32) (a b c d : Value) : va_E := .inr (4, [.int (F 0), .int (F 1), .int (F 2), .int (F 3), .int (F 4), .int (F 5), .int (F 6), .int (F 7), .int (F 8), .int (F 9), .int (F 10), .int (F 11), .int (F 12), a, b, c, d])
theorem pl_suf {D : va_G} {cl : List vw_C} {W0 w : va_W} {H : Heap} (hP : va_P D cl (W0 ++ w) H) : va_P D cl w H := fun k q hq => hP (W0.length + k) q (by rw [List.getElem?_append_right (by omega), show W0.length + k - W0.length = k by omega]; exact hq)
theorem pl_sufD {A : Nat → Prop} {W0 w : va_W} (hD : va_D A (W0 ++ w)) : va_D A w := by
  have g : ∀ (k : Nat) (q : Nat × va_E), w[k]? = some q → (W0 ++ w)[W0.length + k]? = some q := fun k q hq => by
    rw [List.getElem?_append_right (by omega), show W0.length + k - W0.length = k by omega]; exact hq
  exact ⟨fun i j x y hi hj e => by have := hD.1 _ _ x y (g i x hi) (g j y hj) e; omega, fun k q hq => hD.2 _ q (g k q hq)⟩
theorem pl_preD {A : Nat → Prop} {W0 w : va_W} (hD : va_D A (W0 ++ w)) : va_D A W0 := by
  have g : ∀ (k : Nat) (q : Nat × va_E), W0[k]? = some q → (W0 ++ w)[k]? = some q := fun k q hq => by
    rw [List.getElem?_append_left (List.getElem?_eq_some_iff.mp hq).1]; exact hq
  exact ⟨fun i j x y hi hj e => hD.1 _ _ x y (g i x hi) (g j y hj) e, fun k q hq => hD.2 _ q (g k q hq)⟩
theorem pl_tl {D : va_G} {cl : List vw_C} {q0 : Nat × va_E} {w : va_W} {H : Heap} (h : va_P D cl (q0 :: w) H) : va_P D cl w H := fun k q hq => h (k + 1) q hq
theorem pl_tlD {A : Nat → Prop} {q0 : Nat × va_E} {w : va_W} (h : va_D A (q0 :: w)) : va_D A w := pl_sufD (W0 := [q0]) h
theorem pl_rot {D : va_G} {cl : List vw_C} {W : va_W} {q0 : Nat × va_E} {H : Heap} (h : va_P D cl (W ++ [q0]) H) : va_P D cl (q0 :: W) H := fun k q hq => by
  cases k with
  | zero => cases hq; exact h W.length _ (by rw [List.getElem?_append_right (Nat.le_refl _), Nat.sub_self]; rfl)
  | succ k =>
    have hq2 : W[k]? = some q := hq
    exact h k q (by rw [List.getElem?_append_left (List.getElem?_eq_some_iff.mp hq2).1]; exact hq2)
theorem pl_rotD {A : Nat → Prop} {W : va_W} {q0 : Nat × va_E} (h : va_D A (W ++ [q0])) : va_D A (q0 :: W) := by
  have hl : (W ++ [q0])[W.length]? = some q0 := by rw [List.getElem?_append_right (Nat.le_refl _), Nat.sub_self]; rfl
  have g : ∀ (k : Nat) (q : Nat × va_E), W[k]? = some q → (W ++ [q0])[k]? = some q ∧ k < W.length := fun k q hq => by
    have := (List.getElem?_eq_some_iff.mp hq).1
    exact ⟨by rw [List.getElem?_append_left this]; exact hq, this⟩
  refine ⟨fun i j x y hi hj e => ?_, fun k q hq => ?_⟩
  · cases i with
    | zero =>
      cases j with
      | zero => rfl
      | succ j =>
        cases hi
        obtain ⟨g1, g2⟩ := g j y hj
        have := h.1 _ _ _ y hl g1 e
        omega
    | succ i =>
      obtain ⟨g1, g2⟩ := g i x hi
      cases j with
      | zero =>
        cases hj
        have := h.1 _ _ x _ g1 hl e
        omega
      | succ j =>
        obtain ⟨g3, g4⟩ := g j y hj
        have := h.1 _ _ x y g1 g3 e
        omega
  · cases k with
    | zero => cases hq; exact h.2 _ _ hl
    | succ k => exact h.2 k q (g k q hq).1
theorem pl_wid {p : Program} {l : Launch} {e : Env} {R : Room} {s : State} {m : MethodId} {args : Array Value} {below : List Frame} {meth : Method} {c : Code} {H : Heap} {locs : List Loc} {c1 s1 : Nat} {Qc : Array Value → State → Outcome → State → Prop} {free : Addr → Prop} {g : JFrame} (c0 s0 : Nat) (h1 : c0 ≤ c1) (h2 : s0 ≤ s1) (h : W p l e R s m args below meth c H locs c1 s1 (MQ below Qc args s c1 s1 free) g) : W p l e R s m args below meth c H locs c0 s0 (MQ below Qc args s c1 s1 free) g := W.widen h1 h2 h
def AG (U : State) : Prop := (Cond.arrayOver (.array .int)).before #[] U = true
theorem AG.moved {u U : State} (hvm : u.vm.Alike U.vm) (h : AG u) : AG U := over_moved hvm h
/-- the class of rows of rows: its component is the class of rows -/
def GR (cI cG : ClassId) (U : State) : Prop := ∃ (kG kI : Class), U.vm.classes[cG]? = some kG ∧ kG.kind = .array cI (.array .int) ∧ U.vm.classes[cI]? = some kI
theorem GR.moved {cI cG : ClassId} {u U : State} (hvm : u.vm.Alike U.vm) (h : GR cI cG u) : GR cI cG U := by
  obtain ⟨kG, kI, h1, h2, h3⟩ := h
  obtain ⟨k', hk', he⟩ := hvm.2.2 _ _ h1
  obtain ⟨k2, hk2, -⟩ := hvm.2.2 _ _ h3
  exact ⟨k', k2, hk', by rw [he]; exact h2, hk2⟩
abbrev pl_n11 : Cond := .methodLinkNest RL 11 yX3_init RL
abbrev pl_n49 : Cond := .methodLinkNest RL 49 yX4_init RL
abbrev pl_ty (cI cL cG cZ : ClassId) : List (ClassId × FieldType) := [(cI, .int), (cL, .object RX4), (cG, .array .int), (cZ, .boolean)]
def KX (D : va_G) (cI cT cL cG cZ : ClassId) (U : State) : Prop := KK D cI cT U ∧ va_K D vwCl (pl_ty cI cL cG cZ) U ∧ va_AO RX4 U ∧ AG U ∧ GR cI cG U ∧ va_Nw pl_n11 U ∧ va_Nw pl_n49 U
theorem KX.warm {D : va_G} {cI cT cL cG cZ : ClassId} {s U : State} (hW : s.WarmedH U.vm) (h : KX D cI cT cL cG cZ s) : KX D cI cT cL cG cZ U :=
  ⟨h.1.warm hW, va_K.moved hW.alike h.2.1, va_AO.moved hW.alike h.2.2.1, AG.moved hW.alike h.2.2.2.1, GR.moved hW.alike h.2.2.2.2.1, va_Nw.warmM hW h.2.2.2.2.2.1, va_Nw.warmM hW h.2.2.2.2.2.2⟩
theorem KX.call {D : va_G} {cI cT cL cG cZ : ClassId} {U : State} {g : JFrame} {mk : MethodId} {a : Array Value} (h : KX D cI cT cL cG cZ U) : KX D cI cT cL cG cZ (U.calling g mk a) :=
  ⟨h.1.call, va_K.moved (u := U) (U := U.calling g mk a) (Vm.Alike.refl U.vm) h.2.1, va_AO.moved (u := U) (U := U.calling g mk a) (Vm.Alike.refl U.vm) h.2.2.1, AG.moved (u := U) (U := U.calling g mk a) (Vm.Alike.refl U.vm) h.2.2.2.1, GR.moved (u := U) (U := U.calling g mk a) (Vm.Alike.refl U.vm) h.2.2.2.2.1, va_Nw.same (u := U) (U := U.calling g mk a) rfl rfl h.2.2.2.2.2.1, va_Nw.same (u := U) (U := U.calling g mk a) rfl rfl h.2.2.2.2.2.2⟩
theorem KK.draw {D : va_G} {cI cT : ClassId} {U : State} (d : Drawn) (h : KK D cI cT U) : KK D cI cT (U.setDrawn d) :=
  ⟨va_K.moved (u := U) (U := U.setDrawn d) (Vm.Alike.refl U.vm) h.1, fun w hw => va_Nw.same (u := U) (U := U.setDrawn d) (sp_nest_tab w hw) rfl (h.2 w hw)⟩
theorem KX.draw {D : va_G} {cI cT cL cG cZ : ClassId} {U : State} (d : Drawn) (h : KX D cI cT cL cG cZ U) : KX D cI cT cL cG cZ (U.setDrawn d) :=
  ⟨h.1.draw d, va_K.moved (u := U) (U := U.setDrawn d) (Vm.Alike.refl U.vm) h.2.1, va_AO.moved (u := U) (U := U.setDrawn d) (Vm.Alike.refl U.vm) h.2.2.1, AG.moved (u := U) (U := U.setDrawn d) (Vm.Alike.refl U.vm) h.2.2.2.1, GR.moved (u := U) (U := U.setDrawn d) (Vm.Alike.refl U.vm) h.2.2.2.2.1, va_Nw.same (u := U) (U := U.setDrawn d) rfl rfl h.2.2.2.2.2.1, va_Nw.same (u := U) (U := U.setDrawn d) rfl rfl h.2.2.2.2.2.2⟩
theorem XS.draw {U : State} (d : Drawn) (h : XS U) : XS (U.setDrawn d) :=
  ⟨fun q hq => (h.1 q hq).elim fun sa z => ⟨sa, vk_R.same (u := U) (U := U.setDrawn d) rfl z⟩, va_Nw.same (u := U) (U := U.setDrawn d) rfl rfl h.2.1, va_Nw.same (u := U) (U := U.setDrawn d) rfl rfl h.2.2.1, va_Nw.same (u := U) (U := U.setDrawn d) rfl rfl h.2.2.2.1, va_AO.moved (u := U) (U := U.setDrawn d) (Vm.Alike.refl U.vm) h.2.2.2.2.1, fun w hw => by
    have h9 := h.2.2.2.2.2 w hw
    simp only [xdec, List.mem_cons, List.not_mem_nil, or_false] at hw
    rcases hw with rfl | rfl | rfl <;> exact va_Nw.same (u := U) (U := U.setDrawn d) rfl rfl h9⟩
theorem pl_pre {D : va_G} {A : Nat → Prop} {W0 w : va_W} {H H1 : Heap} (hP : va_P D vwCl (W0 ++ w) H) (hD : va_D A (W0 ++ w)) (hk : ∀ q : Nat, q < H.size → ¬ frA (w.map Prod.fst) H.size q → H1[q]? = H[q]?) : va_P D vwCl W0 H1 := by
  refine (xb_P hP).kept (fun i x hx => hk x.1 ((xb_P hP) i x hx).lt (fun hq => ?_))
  have hlt := (List.getElem?_eq_some_iff.mp hx).1
  have hx2 : (W0 ++ w)[i]? = some x := by rw [List.getElem?_append_left hlt]; exact hx
  rcases hq with hq | hq
  · obtain ⟨y, hy, hyx⟩ := List.mem_map.mp hq
    obtain ⟨j, hj⟩ := List.getElem?_of_mem hy
    have hy2 : (W0 ++ w)[W0.length + j]? = some y := by
      rw [List.getElem?_append_right (by omega), show W0.length + j - W0.length = j by omega]; exact hj
    have := hD.1 i (W0.length + j) x y hx2 hy2 hyx.symm
    omega
  · have := (hP i x hx2).lt
    omega
theorem pl_appD {A : Nat → Prop} {W0 w w1 : va_W} {sz : Nat} {D : va_G} {H : Heap} (hP : va_P D vwCl (W0 ++ w) H) (hsz : H.size ≤ sz) (hD : va_D A (W0 ++ w)) (hD1 : va_D (frA (w.map Prod.fst) sz) w1) (hF : ∀ q, frA (w.map Prod.fst) sz q → A q) : va_D A (W0 ++ w1) := by
  have hne : ∀ (i : Nat) (x : Nat × va_E), W0[i]? = some x → ¬ frA (w.map Prod.fst) sz x.1 := fun i x hx hq => by
    have hlt := (List.getElem?_eq_some_iff.mp hx).1
    have hx2 : (W0 ++ w)[i]? = some x := by rw [List.getElem?_append_left hlt]; exact hx
    rcases hq with hq | hq
    · obtain ⟨y, hy, hyx⟩ := List.mem_map.mp hq
      obtain ⟨j, hj⟩ := List.getElem?_of_mem hy
      have hy2 : (W0 ++ w)[W0.length + j]? = some y := by
        rw [List.getElem?_append_right (by omega), show W0.length + j - W0.length = j by omega]; exact hj
      have := hD.1 i (W0.length + j) x y hx2 hy2 hyx.symm
      omega
    · have := (hP i x hx2).lt
      omega
  exact va_D.app (pl_preD hD) (hD1.weaken (fun _ _ _ z => hF _ z)) (fun i j x y hi hj z => hne i x hi (by rw [z]; exact hD1.2 j y hj))
section PLA
variable {p : Program} {l : Launch} {e : Env} {R : Room} {s : State} {m : MethodId} {args : Array Value} {below : List Frame} {meth : Method} {c : Code} {H : Heap} {locs : List Loc} {cells slots : Nat} {Q : State → Prop}
variable {cc : ByteArray} {pc : Nat} {ls : Array Slot} {rest st0 : List Value} {D : va_G} {cI cT cL cG cZ : ClassId} {A : Nat → Prop}
variable {y : MethodName} {bytes : ByteArray} {maxL nL n index : Nat} {ret : Option FieldType} {ws Ts : List Cond} {rm : Room} {own C : String} {b : Addr} {As : List Value} {W0 w w' : va_W}
/-- a new row of ints goes ahead -/
theorem pl_newi {wv : va_W} {H0 : Heap} (hx : p.tables.exec = Jvm.exec) (hb : c.code = cc) (harr : (Cond.arrayClass .int).before args s = true) (hK : KK D cI cT s) (hP : va_P D vwCl wv H) (hD : va_D A wv) (hS : va_S A H0 H locs) (hA : ∀ q, H0.size ≤ q → A q)
    {n : Int32} (N : Nat) (hn : n = nI N) (hN : N ≤ 1000) (hcells : cells + 1 ≤ R.cells) (hslots : slots + N ≤ R.slots) (hdg : decode cc pc = .ok (.newarray .int, 2))
    (kk : ∀ (q : Nat) (H1 : Heap), va_P D vwCl ((q, aI cI N (fun _ => 0)) :: wv) H1 → va_D A ((q, aI cI N (fun _ => 0)) :: wv) → va_S A H0 H1 locs →
      W p l e R s m args below meth c H1 locs (cells + 1) (slots + N) Q (F0 m (pc + 2) ls (.ref q :: rest))) : W p l e R s m args below meth c H locs cells slots Q (F0 m pc ls (.int n :: rest)) :=
  sp_newa hx hb harr hK hP hD hS hA N hn hN hcells hslots hdg (fun q H1 hP1 hD1 hS1 => kk q H1 (pl_rot hP1) (pl_rotD hD1) hS1)
theorem pl_newz {wv : va_W} {H0 : Heap} (hx : p.tables.exec = Jvm.exec) (hb : c.code = cc) (harr : (Cond.arrayClass .boolean).before args s = true) (hK : KX D cI cT cL cG cZ s) (hP : va_P D vwCl wv H) (hD : va_D A wv) (hS : va_S A H0 H locs) (hA : ∀ q, H0.size ≤ q → A q)
    {n : Int32} (N : Nat) (hn : n = nI N) (hN : N ≤ 1000) (hcells : cells + 1 ≤ R.cells) (hslots : slots + N ≤ R.slots) (hdg : decode cc pc = .ok (.newarray .boolean, 2))
    (kk : ∀ (q : Nat) (H1 : Heap), va_P D vwCl ((q, aI cZ N (fun _ => 0)) :: wv) H1 → va_D A ((q, aI cZ N (fun _ => 0)) :: wv) → va_S A H0 H1 locs →
      W p l e R s m args below meth c H1 locs (cells + 1) (slots + N) Q (F0 m (pc + 2) ls (.ref q :: rest))) : W p l e R s m args below meth c H locs cells slots Q (F0 m pc ls (.int n :: rest)) := by
  subst hn
  refine va_newa (atype := .boolean) (ty := .boolean) (N' := N) (a0 := (N, .inl (fun _ => 0))) hx hb harr rfl hK.2.1 hP hD hS hA (fun cA => rfl) (nI_pos (by omega)) (nI_clamp (by omega)) (by show N * 1 ≤ 536870912; omega) hcells hslots hdg (fun q cA H1 hK1 hP1 hD1 hS1 => ?_)
  have e : cA = cZ := by
    have h1 := (hK1.2 4 _ rfl).2
    have h2 := (hK.2.1.2 3 _ rfl).2
    have h3 : s.vm.findClass ("[" ++ (FieldType.boolean).toString) = some cA := h1
    have h4 : s.vm.findClass ("[" ++ (FieldType.boolean).toString) = some cZ := h2
    exact Option.some.inj (h3.symm.trans h4)
  subst e
  exact kk q H1 (pl_rot hP1) (pl_rotD hD1) hS1
theorem pl_newl {wv : va_W} {H0 : Heap} (hx : p.tables.exec = Jvm.exec) (hb : c.code = cc) (hown : s.vm.findClass own = some m.cls) (hcl : (Cond.classLink own index RX4).before args s = true) (hK : KX D cI cT cL cG cZ s) (hP : va_P D vwCl wv H) (hD : va_D A wv) (hS : va_S A H0 H locs) (hA : ∀ q, H0.size ≤ q → A q)
    {n : Int32} (N : Nat) (hn : n = nI N) (hN : N ≤ 1000) (hcells : cells + 1 ≤ R.cells) (hslots : slots + N ≤ R.slots) (hdg : decode cc pc = .ok (.anewarray index, 3))
    (kk : ∀ (q : Nat) (H1 : Heap), va_P D vwCl ((q, aQ cL N (fun _ => none)) :: wv) H1 → va_D A ((q, aQ cL N (fun _ => none)) :: wv) → va_S A H0 H1 locs →
      W p l e R s m args below meth c H1 locs (cells + 1) (slots + N) Q (F0 m (pc + 3) ls (.ref q :: rest))) : W p l e R s m args below meth c H locs cells slots Q (F0 m pc ls (.int n :: rest)) := by
  subst hn
  refine va_newq hx hb hown hcl hK.2.2.1 hK.2.1 hP hD hS hA (nI_pos (by omega)) (nI_clamp (by omega)) (by omega) hcells hslots hdg (fun q cA H1 hK1 hP1 hD1 hS1 => ?_)
  have e : cA = cL := by
    obtain ⟨-, -, -, -, -, h1⟩ := (hK1.2 4 _ rfl).2
    obtain ⟨-, -, -, -, -, h2⟩ := (hK.2.1.2 1 _ rfl).2
    exact Option.some.inj (h1.symm.trans h2)
  subst e
  exact kk q H1 (pl_rot hP1) (pl_rotD hD1) hS1
theorem pl_newg {wv : va_W} {H0 : Heap} (hx : p.tables.exec = Jvm.exec) (hb : c.code = cc) (hown : s.vm.findClass own = some m.cls) (hcl : (Cond.classLink own index "[I").before args s = true) (hK : KX D cI cT cL cG cZ s) (hP : va_P D vwCl wv H) (hD : va_D A wv) (hS : va_S A H0 H locs) (hA : ∀ q, H0.size ≤ q → A q)
    {n : Int32} (N : Nat) (hn : n = nI N) (hN : N ≤ 1000) (hcells : cells + 1 ≤ R.cells) (hslots : slots + N ≤ R.slots) (hdg : decode cc pc = .ok (.anewarray index, 3))
    (kk : ∀ (q : Nat) (H1 : Heap), va_P D vwCl ((q, aQ cG N (fun _ => none)) :: wv) H1 → va_D A ((q, aQ cG N (fun _ => none)) :: wv) → va_S A H0 H1 locs →
      W p l e R s m args below meth c H1 locs (cells + 1) (slots + N) Q (F0 m (pc + 3) ls (.ref q :: rest))) : W p l e R s m args below meth c H locs cells slots Q (F0 m pc ls (.int n :: rest)) := by
  subst hn
  have eN : (nI N).toNatClampNeg = N := nI_clamp (by omega)
  have hcl2 : (Cond.classLink own index (FieldType.array FieldType.int).toString).before args s = true := by
    rw [show (FieldType.array FieldType.int).toString = "[I" by decide +kernel]; exact hcl
  have hov : (Cond.arrayOver (.array .int)).before args s = true := hK.2.2.2.1
  refine W.anewA hx hb hown hcl2 hov rfl hdg rfl (nI_pos (by omega)) (by rw [eN]; omega) hcells (by rw [eN]; exact hslots) fun cA kA comp f1 f2 f3 f4 => ?_
  rw [eN]
  generalize hH1 : H.push ({ cls := cA, slots := Array.replicate N .null, vm := .none } : Cell) = H1
  have z1 : H1.size = H.size + 1 := by rw [← hH1, Array.size_push]
  have e1 : H1[H.size]? = some (arrV cA N (fun _ => .null)) := by rw [← hH1, Array.getElem?_push_size, ← arrV_new]
  have o1 : ∀ q : Nat, q < H.size → H1[q]? = H[q]? := fun q hq => by rw [← hH1, Array.getElem?_push, if_neg (Nat.ne_of_lt hq)]
  have hk : ∀ (k : Nat) (x : Nat × va_E), wv[k]? = some x → H1[x.1]? = H[x.1]? := fun k x hx => o1 x.1 ((hP k x hx).lt)
  have e : cA = cG := by
    have h2 : s.vm.findClass ("[" ++ (FieldType.array FieldType.int).toString) = some cG := (hK.2.1.2 2 _ rfl).2
    exact Option.some.inj (f1.symm.trans h2)
  subst e
  refine kk H.size H1 (pl_rot ((hP.kept hk).app (fun k x hx => ?_))) (pl_rotD (hD.push hP rfl (hA _ hS.1))) ⟨Nat.le_trans hS.1 (by omega), fun x h1 h2 => (o1 x (Nat.lt_of_lt_of_le h1 hS.1)).trans (hS.2.1 x h1 h2), hS.2.2⟩
  have hz : k < 1 := (List.getElem?_eq_some_iff.mp hx).1
  rw [show k = 0 by omega] at hx
  cases hx
  show H1[H.size]? = some (vp_cell _ _)
  rw [vp_cell_q]
  exact e1
/-- a row out of a row of rows -/
theorem pl_gld {wv : va_W} {a : Nat} (hx : p.tables.exec = Jvm.exec) (hb : c.code = cc) (hK : KX D cI cT cL cG cZ s) (hP : va_P D vwCl wv H) (q0 : Nat) {N : Nat} {f : Nat → Option Nat} (ha : wv[q0]? = some (a, aQ cG N f)) {i v : Nat} (hi : i < N) (hN : N < 2147483648) (hv : f i = some v) (hdg : decode cc pc = .ok (.aaload, 1))
    (kk : W p l e R s m args below meth c H locs cells slots Q (F0 m (pc + 1) ls (.ref v :: rest))) : W p l e R s m args below meth c H locs cells slots Q (F0 m pc ls (.int (nI i) :: .ref a :: rest)) := by
  have eN : (nI i).toNatClampNeg = i := nI_clamp (Nat.lt_trans hi hN)
  have hlt : (nI i).toNatClampNeg < N := by rw [eN]; exact hi
  refine W.aald (v := va_rf (f i)) (ty := .array .int) hx hb (hP q0 _ ha) ((hK.2.1.2 2 _ rfl).1 N (fun j => va_rf (f j))) rfl (fun q => by cases q) (by show ¬ (nI i < 0 ∨ (arrV _ _ _).slots.size ≤ _); rw [arrV_size]; exact vp_in_nI hi hN) (by show (arrV _ _ _).slots[_]? = _; rw [arrV_read _ _ hlt, eN]) rfl rfl hdg ?_
  rw [hv]
  exact kk
/-- a row is put into a row of rows -/
theorem pl_gst {wv : va_W} {a : Nat} {H0 : Heap} (hx : p.tables.exec = Jvm.exec) (hb : c.code = cc) (hK : KX D cI cT cL cG cZ s) (hP : va_P D vwCl wv H) (hD : va_D A wv) (hS : va_S A H0 H locs) (q0 qk : Nat) {N : Nat} {f : Nat → Option Nat} (ha : wv[q0]? = some (a, aQ cG N f)) {v M : Nat} {g : Nat → Int32} (hv : wv[qk]? = some (v, aI cI M g)) {i : Nat} (hi : i < N) (hN : N < 2147483648) (hdg : decode cc pc = .ok (.aastore, 1))
    (kk : ∀ (H1 : Heap) (locs1 : List Loc), va_P D vwCl (wv.set q0 (a, aQ cG N (va_up f i (some v)))) H1 → va_D A (wv.set q0 (a, aQ cG N (va_up f i (some v)))) → va_S A H0 H1 locs1 → W p l e R s m args below meth c H1 locs1 cells slots Q (F0 m (pc + 1) ls rest)) : W p l e R s m args below meth c H locs cells slots Q (F0 m pc ls (.ref v :: .int (nI i) :: .ref a :: rest)) := by
  have eN : (nI i).toNatClampNeg = i := nI_clamp (Nat.lt_trans hi hN)
  have hlt : (nI i).toNatClampNeg < N := by rw [eN]; exact hi
  obtain ⟨kG, kI, k1, k2, k3⟩ := hK.2.2.2.2.1
  refine W.aast hx hb (hP q0 _ ha) (fun q h => by cases h) (fun h => by cases h) k1 k2 rfl k3 ⟨nI_pos (Nat.lt_trans hi hN), by show _ < (arrV _ _ _).slots.size; rw [arrV_size]; exact hlt⟩ (hP qk _ hv) (fun q h => by cases h) k3 (va_asg _ _) rfl rfl hdg fun H1 e z oq => ?_
  refine kk H1 _ (hP.set hD ha ?_ oq) (hD.set ha) (hS.put z oq (hD.2 q0 _ ha))
  show H1[a]? = some (vp_cell _ _)
  rw [e, eN]
  rw [vp_cell_q, vp_cell_q, arrV_store]
  congr 2
  funext q
  by_cases hq : q = i
  · subst hq
    simp [updV, va_up, va_rf]
  · simp [updV, va_up, hq]
/-- the race is called behind other cells, and answers -/
theorem pl_sO {v : Int32} {res : Int32 ⊕ String} {mc ms : Nat} (S : CallFix p m c cc nL s args Ts own) (hM : MetO l D cI cT y ws rm (.ref b :: As) w w' res mc ms H.size) (cw : CallW R s args own C index y bytes maxL ret ws rm mc ms n) (hres : res = .inl v) (hK : KK D cI cT s)
    (hXZ : XZ A s s.heap) (hXS : XS s) (hP : va_P D vwCl (W0 ++ w) H) (hD : va_D A (W0 ++ w)) (hS : va_S A s.heap H locs) (hA : ∀ q, s.heap.size ≤ q → A q) (hm : w'.map Prod.fst = w.map Prod.fst)
    {ci : Nat} {q : vw_C} {fs : List Value} (hc : vwCl[ci]? = some q) (he : w[0]? = some (b, .inr (ci, fs))) (hcC : q.1 = C) (hn : As.length = n) (hsize : ls.size = nL) (hst : st0 = As.reverse ++ .ref b :: rest) (hW : (rest.map fun v => v.category).sum ≤ 8)
    (hdg : decode cc pc = .ok (.invokevirtual index, 3)) (hcs : mc ≤ 2 ∧ ms ≤ 12) (hf : cells + 2 ≤ R.cells ∧ slots + 12 ≤ R.slots)
    (kk : ∀ (H1 : Heap) (locs1 : List Loc), va_P D vwCl (W0 ++ w') H1 → va_D A (W0 ++ w') → va_S A s.heap H1 locs1 → W p l e R s m args below meth c H1 locs1 (cells + 2) (slots + 12) Q (F0 m (pc + 3) ls (.int v :: rest))) : W p l e R s m args below meth c H locs cells slots Q (F0 m pc ls st0) := by
  subst hst hcC
  have hPw := pl_suf hP
  have hDw := pl_sufD hD
  have hF := frA_in hDw hS hA
  refine vx_calli (vx_runV (rest := rest) S hM cw ⟨MxP.blind, va_recv hK.1 hPw hc he, sp_mx hK hXZ hXS hPw hDw hS hA⟩ rfl hn hsize rfl (lv_room hW) hdg ⟨by omega, by omega⟩) hS (fun q _ h => hF q h) hF (fun q _ h => hF q h) (fun E ce q9 u t H1 locs1 ht hvm hu hB hz hk hS1 h1 h2 h3 => ?_) (fun z u t H1 locs1 ht hvm hw hB hz hk hS1 => ?_)
  · exact absurd (hres.symm.trans hB.1) (fun z => by cases z)
  · rw [ht] at hB
    have ez : z = v := Sum.inl.inj (hw.symm.trans hres)
    subst ez
    refine W.widen (k := cells + 2) (n := slots + 12) (by omega) (by omega) ?_
    exact kk H1 locs1 (va_P.app (pl_pre hP hD hk) hB) (sp_Dsame (by rw [List.map_append, List.map_append, hm]) hD) hS1
/-- .. and keeps new cells -/
theorem pl_sN {v : Int32} {res : Int32 ⊕ String} {mc ms k : Nat} {wn : List Nat → va_W} (S : CallFix p m c cc nL s args Ts own) (hM : MetON l D cI cT y ws rm (.ref b :: As) w wn k res mc ms H.size) (cw : CallW R s args own C index y bytes maxL ret ws rm mc ms n) (hres : res = .inl v) (hK : KK D cI cT s)
    (hXZ : XZ A s s.heap) (hXS : XS s) (hP : va_P D vwCl (W0 ++ w) H) (hD : va_D A (W0 ++ w)) (hS : va_S A s.heap H locs) (hA : ∀ q, s.heap.size ≤ q → A q)
    {ci : Nat} {q : vw_C} {fs : List Value} (hc : vwCl[ci]? = some q) (he : w[0]? = some (b, .inr (ci, fs))) (hcC : q.1 = C) (hn : As.length = n) (hsize : ls.size = nL) (hst : st0 = As.reverse ++ .ref b :: rest) (hW : (rest.map fun v => v.category).sum ≤ 8)
    (hdg : decode cc pc = .ok (.invokevirtual index, 3)) (hf : cells + mc ≤ R.cells ∧ slots + ms ≤ R.slots)
    (kk : ∀ (u : List Nat) (H1 : Heap) (locs1 : List Loc), u.length = k → va_P D vwCl (W0 ++ wn u) H1 → va_D A (W0 ++ wn u) → va_S A s.heap H1 locs1 → W p l e R s m args below meth c H1 locs1 (cells + mc) (slots + ms) Q (F0 m (pc + 3) ls (.int v :: rest))) : W p l e R s m args below meth c H locs cells slots Q (F0 m pc ls st0) := by
  subst hst hcC
  have hPw := pl_suf hP
  have hDw := pl_sufD hD
  have hF := frA_in hDw hS hA
  refine vx_calli (vx_runV (rest := rest) S hM cw ⟨MxP.blind, va_recv hK.1 hPw hc he, sp_mx hK hXZ hXS hPw hDw hS hA⟩ rfl hn hsize rfl (lv_room hW) hdg hf) hS (fun q _ h => hF q h) hF (fun q _ h => hF q h) (fun E ce q9 u t H1 locs1 ht hvm hu hB hz hk hS1 h1 h2 h3 => ?_) (fun z u t H1 locs1 ht hvm hw hB hz hk hS1 => ?_)
  · exact absurd (hres.symm.trans hB.1) (fun z => by cases z)
  · rw [ht] at hB
    have ez : z = v := Sum.inl.inj (hw.1.symm.trans hres)
    subst ez
    exact kk u H1 locs1 hw.2 (va_P.app (pl_pre hP hD hk) hB.1) (pl_appD hP (Nat.le_refl _) hD hB.2 hF) hS1
end PLA
