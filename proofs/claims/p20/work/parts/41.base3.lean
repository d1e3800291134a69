/-! Constructors: raw cells, new objects, calls that keep new cells -/
abbrev oTn (F : Nat → Int32) (a b c : Value) : va_E := .inr (0, [.int (F 0), .int (F 1), .int (F 2), .int (F 3), .int (F 4), .int (F 5), .int (F 6), .int (F 7), .int (F 8), .int (F 9), .int (F 10), .int (F 11), .int (F 12), .int (F 13), .int (F 14), .int (F 15), .int (F 16), a, b, c])
abbrev oKn (F : Nat → Int32) (a b c : Value) : va_E := .inr (1, [a, b, c, .int (F 3), .int (F 4)])
abbrev oRn (a b c d : Value) (n t : Int32) : va_E := .inr (2, [a, b, c, d, .int n, .int t])
theorem frA_A {w : va_W} {sz q : Nat} (h : va_A w sz q) : frA (w.map Prod.fst) sz q := by
  rcases h with ⟨k, e, h⟩ | h
  · exact Or.inl (List.mem_map.mpr ⟨(q, e), List.mem_of_getElem? h, rfl⟩)
  · exact Or.inr h
theorem A_frA {w : va_W} {sz q : Nat} (h : frA (w.map Prod.fst) sz q) : va_A w sz q := by
  rcases h with h | h
  · obtain ⟨x, hx, rfl⟩ := List.mem_map.mp h
    obtain ⟨k, hk⟩ := List.getElem?_of_mem hx
    exact Or.inl ⟨k, x.2, hk⟩
  · exact Or.inr h
theorem len1 {u : List Nat} (h : u.length = 1) : ∃ a, u = [a] := by
  match u, h with
  | [a], _ => exact ⟨a, rfl⟩
theorem len3 {u : List Nat} (h : u.length = 3) : ∃ a b c, u = [a, b, c] := by
  match u, h with
  | [a, b, c], _ => exact ⟨a, b, c, rfl⟩
theorem sp_nod {A : Nat → Prop} {w : va_W} (h : va_D A w) : (w.map Prod.fst).Nodup := by
  refine List.pairwise_iff_getElem.mpr fun i j hi hj hij hbad => ?_
  rw [List.length_map] at hi hj
  rw [List.getElem_map, List.getElem_map] at hbad
  exact absurd (h.1 i j _ _ (List.getElem?_eq_getElem hi) (List.getElem?_eq_getElem hj) hbad) (Nat.ne_of_lt hij)
theorem sp_nod2 {A : Nat → Prop} {w : va_W} (h : va_D A w) : ((w ++ []).map Prod.fst).Nodup := by rw [List.append_nil]; exact sp_nod h
section SPC
variable {p : Program} {l : Launch} {e : Env} {R : Room} {s : State} {m : MethodId} {args : Array Value} {below : List Frame} {meth : Method} {c : Code} {H : Heap} {locs : List Loc} {cells slots : Nat} {Q : State → Prop}
variable {cc : ByteArray} {pc : Nat} {ls : Array Slot} {rest st0 : List Value} {D : va_G} {cI cT : ClassId} {A : Nat → Prop}
variable {y : MethodName} {bytes : ByteArray} {maxL nL n index : Nat} {ret : Option FieldType} {ws Ts : List Cond} {rm : Room} {own C : String} {b : Addr} {As : List Value} {wc rc w1 W0 W1 wr : va_W}
/-- a constructor is called: it keeps its new cells -/
theorem sp_iN {k mc ms : Nat} {w' : List Nat → va_W} (S : CallFix p m c cc nL s args Ts own) (hM : MetVA l D cI cT y ws rm (.ref b :: As) wc rc w' k mc ms H.size) (cw : CallB R s args own index y bytes maxL none ws rm mc ms n ∧ y.name = "<init>" ∧ (Cond.instanceMethod y).before args s = true) (hK : KK D cI cT s)
    (hP : va_P D vwCl W0 H) (hD : va_D A W0) (hS : va_S A s.heap H locs) (hA : ∀ q, s.heap.size ≤ q → A q) (isC isR : List Nat) (hC : isC.map (fun i => W0[i]?) = wc.map some) (hR : isR.map (fun i => W0[i]?) = wr.map some) (hnd : va_nd isR = true) (hdis : ∀ i ∈ isR, i ∉ isC) (hPr : va_P D vwCl rc H) (hN : ((wc ++ rc).map Prod.fst).Nodup)
    (hn : As.length = n) (hsize : ls.size = nL) (hst : st0 = As.reverse ++ .ref b :: rest) (hW : (rest.map fun v => v.category).sum ≤ 8)
    (hdg : decode cc pc = .ok (.invokespecial index, 3)) (hf : cells + mc ≤ R.cells ∧ slots + ms ≤ R.slots)
    (kk : ∀ (u : List Nat) (H1 : Heap) (locs1 : List Loc), u.length = k → va_P D vwCl (wr ++ w' u) H1 → va_D A (wr ++ w' u) → va_S A s.heap H1 locs1 → W p l e R s m args below meth c H1 locs1 (cells + mc) (slots + ms) Q (F0 m (pc + 3) ls rest)) : W p l e R s m args below meth c H locs cells slots Q (F0 m pc ls st0) := by
  subst hst
  have hPc := sp_pick hP isC hC
  have hF := va_free hD hS hA isC hC
  refine va_callv (va_runI (rest := rest) S hM cw ⟨MaP.blind, fun U hU hW => ⟨rfl, by rw [hU], by rw [hU]; exact hPc, by rw [hU]; exact hPr, hK.warm hW, hN⟩⟩ rfl hn hsize rfl (lv_room hW) hdg hf) hS (fun q _ h => hF q (A_frA h)) (fun q h => hF q (A_frA h)) (fun u t H1 locs1 ht hvm hw hB hz hk hS1 => ?_)
  rw [ht] at hB
  obtain ⟨hP2, hD2⟩ := hB
  obtain ⟨hP3, hD3⟩ := va_join hP hD isC isR hC hR hnd hdis (fun q h1 h2 => hk q h1 (fun z => h2 (A_frA z))) hF hP2 (hD2.weaken (fun _ _ _ z => A_frA z))
  exact kk u H1 locs1 hw hP3 hD3 hS1
theorem KK.team {cA : ClassId} (hK : KK D cI cT s) {tys : List (ClassId × FieldType)} (h : va_K D vwCl (tys ++ [(cA, .object RX0)]) s) : cA = cT := by
  have h1 : va_RA s cA (.object RX0) := (h.2 tys.length (cA, .object RX0) (by simp)).2
  have h2 : va_RA s cT (.object RX0) := (hK.1.2 1 (cT, .object RX0) rfl).2
  obtain ⟨_, _, _, _, _, f1⟩ := h1
  obtain ⟨_, _, _, _, _, f2⟩ := h2
  exact Option.some.inj (f1.symm.trans f2)
/-- a new row of teams -/
theorem sp_newq {wv : va_W} {H0 : Heap} (hx : p.tables.exec = Jvm.exec) (hb : c.code = cc) (hown : s.vm.findClass own = some m.cls) (hcl : (Cond.classLink own index RX0).before args s = true) (hao : va_AO RX0 s) (hK : KK D cI cT s) (hP : va_P D vwCl wv H) (hD : va_D A wv) (hS : va_S A H0 H locs) (hA : ∀ q, H0.size ≤ q → A q)
    {n : Int32} (N : Nat) (hn : n = nI N) (hN : N ≤ 1000) (hcells : cells + 1 ≤ R.cells) (hslots : slots + N ≤ R.slots) (hdg : decode cc pc = .ok (.anewarray index, 3))
    (kk : ∀ (q : Nat) (H1 : Heap), va_P D vwCl (wv ++ [(q, aQ cT N (fun _ => none))]) H1 → va_D A (wv ++ [(q, aQ cT N (fun _ => none))]) → va_S A H0 H1 locs →
      W p l e R s m args below meth c H1 locs (cells + 1) (slots + N) Q (F0 m (pc + 3) ls (.ref q :: rest))) : W p l e R s m args below meth c H locs cells slots Q (F0 m pc ls (.int n :: rest)) := by
  subst hn
  refine va_newq hx hb hown hcl hao hK.1 hP hD hS hA (nI_pos (by omega)) (nI_clamp (by omega)) (by omega) hcells hslots hdg (fun q cA H1 hK1 hP1 hD1 hS1 => ?_)
  have e := hK.team (tys := [(cI, .int), (cT, .object RX0)]) hK1
  subst e
  exact kk q H1 hP1 hD1 hS1
end SPC
/-- a constructor that makes a row of teams -/
abbrev MetVB (l : Launch) (D : va_G) (cI cT : ClassId) (y : MethodName) (ws : List Cond) (rm : Room) (av : List Value) (w r : va_W) (w' : List Nat → va_W) (k : Nat) (mc ms sz : Nat) : Prop := Met l y ws rm (fun a U => MaP D cI cT av w r sz a U ∧ va_AO RX0 U) (va_Qv (S := List Nat) (fun u => u.length = k) (fun u t => va_P D vwCl (w' u) t.heap ∧ va_D (frA (w.map Prod.fst) sz) (w' u)) (frA (w.map Prod.fst) sz)) mc ms (frA (w.map Prod.fst) sz)
def cNewF (x y w : Int32) (n : Nat) : Nat → Int32 := upd (upd (upd (upd (upd (upd (upd (upd (upd (upd (fun _ => 0) 0 x) 1 y) 2 w) 3 (nI n)) 4 4) 5 10) 6 1) 7 200) 8 5) 9 10
def cTrackF : Nat → Int32 := upd (upd (fun _ => 0) 3 1) 4 500
