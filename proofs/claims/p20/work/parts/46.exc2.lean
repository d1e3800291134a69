/-! Methods that return or throw -/
def sp_strs : List (Nat × String) := [(45, "length is not 100 to 2000"), (56, "no such stretch can be laid"), (63, "there are 12 stretches"), (75, "no such sledge can be built"), (77, "there are 6 teams"), (83, "no such crew can be had"), (100, "no team can race like this"), (108, "ticks is not 1 to 500"), (110, "there are no teams"), (124, "what is not 0 to 5"), (131, "what is not 0 to 11"), (143, "no such roller"), (145, "the roller is carried"), (147, "what is not 0 to 2"), (160, "no such rank"), (165, "ticks is not 1 to 400"), (190, "the race has begun"), (192, "no such team")]
abbrev xIAE : String := "java/lang/IllegalArgumentException"
abbrev xISE : String := "java/lang/IllegalStateException"
abbrev xIOB : String := "java/lang/IndexOutOfBoundsException"
abbrev xsup : List String := ["java/lang/RuntimeException", "java/lang/Exception"]
abbrev xdec : List Cond := [.declares (Bundle.initS "java/lang/RuntimeException"), .declares (Bundle.initS "java/lang/Exception"), .declares (Bundle.initS Bundle.tN)]
def XS (U : State) : Prop := (∀ q ∈ sp_strs, ∃ sa, vk_R RX2 q.1 q.2 sa U) ∧ va_Nw (.castable xIAE xIAE) U ∧ va_Nw (.castable xISE xISE) U ∧ va_Nw (.castable xIOB xIOB) U ∧ va_AO RX0 U ∧ ∀ w ∈ xdec, va_Nw w U
theorem XS.warm {s U : State} (hW : s.WarmedH U.vm) (h : XS s) : XS U :=
  ⟨fun q hq => (h.1 q hq).elim fun sa z => ⟨sa, vk_R.warm hW z⟩, va_Nw.warmC hW h.2.1, va_Nw.warmC hW h.2.2.1, va_Nw.warmC hW h.2.2.2.1, va_AO.moved hW.alike h.2.2.2.2.1, fun w hw => by
    have h9 := h.2.2.2.2.2 w hw
    simp only [xdec, List.mem_cons, List.not_mem_nil, or_false] at hw
    rcases hw with rfl | rfl | rfl <;> exact va_Nw.warmD hW h9⟩
theorem XS.call {U : State} {g : JFrame} {mk : MethodId} {a : Array Value} (h : XS U) : XS (U.calling g mk a) :=
  ⟨fun q hq => (h.1 q hq).elim fun sa z => ⟨sa, vk_R.same (u := U) (U := U.calling g mk a) rfl z⟩, va_Nw.same (u := U) (U := U.calling g mk a) rfl rfl h.2.1, va_Nw.same (u := U) (U := U.calling g mk a) rfl rfl h.2.2.1, va_Nw.same (u := U) (U := U.calling g mk a) rfl rfl h.2.2.2.1, va_AO.moved (u := U) (U := U.calling g mk a) (Vm.Alike.refl U.vm) h.2.2.2.2.1, fun w hw => by
    have h9 := h.2.2.2.2.2 w hw
    simp only [xdec, List.mem_cons, List.not_mem_nil, or_false] at hw
    rcases hw with rfl | rfl | rfl <;> exact va_Nw.same (u := U) (U := U.calling g mk a) rfl rfl h9⟩
def XZ (A : Nat → Prop) (U : State) (H : Heap) : Prop := vx_Zq Bundle.tN "UNASSIGNED_STACK" Bundle.steD A U H ∧ vx_Zq Bundle.tN "SUPPRESSED_SENTINEL" Bundle.listD A U H
theorem XZ.call {A : Nat → Prop} {U : State} {H : Heap} {g : JFrame} {mk : MethodId} {a : Array Value} (h : XZ A U H) : XZ A (U.calling g mk a) H :=
  ⟨vx_Zq.moved (u := U) (U := U.calling g mk a) (Vm.Alike.refl U.vm) h.1, vx_Zq.moved (u := U) (U := U.calling g mk a) (Vm.Alike.refl U.vm) h.2⟩
/-- from a caller's point to a callee's start -/
theorem XZ.at {A B : Nat → Prop} {s U : State} {H : Heap} {locs : List Loc} (h : XZ A s s.heap) (hS : va_S A s.heap H locs) (hAB : ∀ q, B q → A q) (hU : U.heap = H) (hW : s.WarmedH U.vm) : XZ B U U.heap := by
  rw [hU]
  exact ⟨vx_Zq.moved hW.alike ((h.1.kept hS.2.1).narrow hAB), vx_Zq.moved hW.alike ((h.2.kept hS.2.1).narrow hAB)⟩
def MxP (D : va_G) (cI cT : ClassId) (av : List Value) (w : va_W) (sz : Nat) : Array Value → State → Prop := fun a U => MaP D cI cT av w [] sz a U ∧ XZ (frA (w.map Prod.fst) sz) U U.heap ∧ XS U
theorem MxP.blind {D : va_G} {cI cT : ClassId} {av : List Value} {w : va_W} {sz : Nat} : FrameBlind (MxP D cI cT av w sz) := fun a U g mk h => ⟨MaP.blind a U g mk h.1, h.2.1.call, h.2.2.call⟩
/-- it throws an exception of the class that res names, the world unchanged -/
abbrev XO (D : va_G) (w : va_W) (res : String → Prop) (A : Nat → Prop) : String → State → State → Prop := vx_X (S := Unit) (fun _ => True) (fun E _ t => res E ∧ va_P D vwCl w t.heap) A
/-- a method that answers an int, or throws: res says which -/
abbrev MetO (l : Launch) (D : va_G) (cI cT : ClassId) (y : MethodName) (ws : List Cond) (rm : Room) (av : List Value) (w w' : va_W) (res : Int32 ⊕ String) (mc ms sz : Nat) : Prop := vx_Met l y ws rm (MxP D cI cT av w sz) (va_Qi (S := Unit) (fun z _ => res = .inl z) (fun _ t => va_P D vwCl w' t.heap) (frA (w.map Prod.fst) sz)) (XO D w (fun E => res = .inr E) (frA (w.map Prod.fst) sz)) mc ms (frA (w.map Prod.fst) sz)
/-- .. a method without an answer -/
abbrev MetOV (l : Launch) (D : va_G) (cI cT : ClassId) (y : MethodName) (ws : List Cond) (rm : Room) (av : List Value) (w w' : va_W) (res : Option String) (mc ms sz : Nat) : Prop := vx_Met l y ws rm (MxP D cI cT av w sz) (va_Qv (S := Unit) (fun _ => res = none) (fun _ t => va_P D vwCl w' t.heap) (frA (w.map Prod.fst) sz)) (XO D w (fun E => res = some E) (frA (w.map Prod.fst) sz)) mc ms (frA (w.map Prod.fst) sz)
/-- .. a method that answers a reference -/
abbrev MetOR (l : Launch) (D : va_G) (cI cT : ClassId) (y : MethodName) (ws : List Cond) (rm : Room) (av : List Value) (w w' : va_W) (res : Nat ⊕ String) (mc ms sz : Nat) : Prop := vx_Met l y ws rm (MxP D cI cT av w sz) (va_Qr (S := Unit) (fun _ => True) (fun _ q t => res = .inl q ∧ va_P D vwCl w' t.heap) (frA (w.map Prod.fst) sz)) (XO D w (fun E => res = .inr E) (frA (w.map Prod.fst) sz)) mc ms (frA (w.map Prod.fst) sz)
/-- .. a method that makes new cells and keeps k of them -/
abbrev MetON (l : Launch) (D : va_G) (cI cT : ClassId) (y : MethodName) (ws : List Cond) (rm : Room) (av : List Value) (w : va_W) (w' : List Nat → va_W) (k : Nat) (res : Int32 ⊕ String) (mc ms sz : Nat) : Prop := vx_Met l y ws rm (MxP D cI cT av w sz) (va_Qi (S := List Nat) (fun z u => res = .inl z ∧ u.length = k) (fun u t => va_P D vwCl (w' u) t.heap ∧ va_D (frA (w.map Prod.fst) sz) (w' u)) (frA (w.map Prod.fst) sz)) (XO D w (fun E => res = .inr E) (frA (w.map Prod.fst) sz)) mc ms (frA (w.map Prod.fst) sz)
section SPX
variable {p : Program} {l : Launch} {e : Env} {R : Room} {s : State} {m : MethodId} {args : Array Value} {below : List Frame} {meth : Method} {c : Code} {H : Heap} {locs : List Loc} {cells slots : Nat} {Q : State → Prop}
variable {cc : ByteArray} {pc : Nat} {ls : Array Slot} {rest st0 : List Value} {D : va_G} {cI cT : ClassId} {A : Nat → Prop} {Qc : Array Value → State → Outcome → State → Prop}
variable {y : MethodName} {bytes : ByteArray} {maxL nL n index : Nat} {ret : Option FieldType} {ws Ts : List Cond} {rm : Room} {own C : String} {b : Addr} {As : List Value} {W0 W1 : va_W}
/-- 'throw new E("text")' in the race -/
theorem sp_throw {cls text : String} {ik is ic mc ms : Nat} {w : va_W} {res : String → Prop} (hx : p.tables.exec = Jvm.exec) (hb : c.code = cc) (hl : l.stackTraces = false) (hown : s.vm.findClass RX2 = some m.cls) (hfit : Bundle.fit cls = true) (hfs : ∀ n ∈ xsup, Bundle.fit n = true) (htx : (is, text) ∈ sp_strs)
    (hk : (Cond.classLink RX2 ik cls).before args s = true) (hini : (Cond.initialized cls).before args s = true) (hcast : va_Nw (.castable cls cls) s)
    (hgd : ∀ w ∈ (vx_atS RX2 ic cls xsup).filter goodWord, w.before args s = true) (hng : ∀ w ∈ (vx_atS RX2 ic cls xsup).filter (fun w => !goodWord w), w ∈ Cond.castable cls cls :: xdec) (hgood : ∀ w ∈ Cond.classLink RX2 ik cls :: Cond.initialized cls :: vx_atS RX2 ic cls xsup, vx_ot w = true)
    (hXZ : XZ A s s.heap) (hXS : XS s) (hS : va_S A s.heap H locs) (hP : va_P D vwCl w H) (hsize : ls.size = c.maxLocals)
    (d0 : decode cc pc = .ok (.new ik, 3)) (d3 : decode cc (pc + 3) = .ok (.dup, 1)) (d4 : decode cc (pc + 4) = .ok (.ldc is, 2)) (d6 : decode cc (pc + 6) = .ok (.invokespecial ic, 3)) (d9 : decode cc (pc + 9) = .ok (.athrow, 1))
    (hout : ∀ x ∈ c.exceptionTable.toList, False)
    (hRframes : 5 < R.frames) (hRlocals : (rest.map fun v => v.category).sum + 82 ≤ R.locals) (hRcells : cells + 1 ≤ R.cells) (hRslots : slots + 6 ≤ R.slots) (hlocks : meth.locks = false)
    (hc : cells + 1 ≤ mc) (hs : slots + 6 ≤ ms) (hE : res cls) :
    W p l e R s m args below meth c H locs cells slots (vx_MQ below Qc (XO D w res A) args s mc ms A) (F0 m pc ls rest) := by
  obtain ⟨sa, hsa⟩ := hXS.1 _ htx
  refine vx_throwS (names := xsup) hx hb hl hown hfit hfs hk hini hsa (vx_hat hgd hng (vx_c (va_Nw.use rfl hcast) (fun w hw => va_Nw.use (by simp only [xdec, List.mem_cons, List.not_mem_nil, or_false] at hw; rcases hw with rfl | rfl | rfl <;> rfl) (hXS.2.2.2.2.2 w hw)))) hgood hXZ.1 hXZ.2 hS hsize d0 d3 d4 d6 d9 (fun x hx => absurd (hout x hx) id) hRframes (by show _ + (13 * 3 + 43) ≤ _; omega) hRcells hRslots hlocks ?_ hS.2.2 hc hs
  intro t ha hz hk
  exact ⟨(), trivial, ⟨hE, hP.kept (fun k x hx => hk x.1 ((hP k x hx).lt))⟩, Nat.le_trans hS.1 hz, fun q h1 h2 => (hk q (Nat.lt_of_lt_of_le h1 hS.1)).trans (hS.2.1 q h1 h2)⟩
end SPX
theorem sp_ng1 : ∀ w ∈ (vx_atS RX2 47 xIAE xsup).filter (fun w => !goodWord w), w ∈ Cond.castable xIAE xIAE :: xdec := by decide +kernel
theorem sp_ng2 : ∀ w ∈ (vx_atS RX2 65 xISE xsup).filter (fun w => !goodWord w), w ∈ Cond.castable xISE xISE :: xdec := by decide +kernel
theorem sp_ng3 : ∀ w ∈ (vx_atS RX2 126 xIOB xsup).filter (fun w => !goodWord w), w ∈ Cond.castable xIOB xIOB :: xdec := by decide +kernel
theorem sp_gw1 : ∀ w ∈ Cond.classLink RX2 43 xIAE :: Cond.initialized xIAE :: vx_atS RX2 47 xIAE xsup, vx_ot w = true := by decide +kernel
theorem sp_gw2 : ∀ w ∈ Cond.classLink RX2 61 xISE :: Cond.initialized xISE :: vx_atS RX2 65 xISE xsup, vx_ot w = true := by decide +kernel
theorem sp_gw3 : ∀ w ∈ Cond.classLink RX2 122 xIOB :: Cond.initialized xIOB :: vx_atS RX2 126 xIOB xsup, vx_ot w = true := by decide +kernel
theorem sp_fit1 : Bundle.fit xIAE = true := by decide +kernel
theorem sp_fit2 : Bundle.fit xISE = true := by decide +kernel
theorem sp_fit3 : Bundle.fit xIOB = true := by decide +kernel
theorem sp_fits : ∀ n ∈ xsup, Bundle.fit n = true := by decide +kernel
