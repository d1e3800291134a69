/-! The law's helpers: they call the race, and catch -/
abbrev aJ (cJ : ClassId) (f : Nat → Int64) : va_E := .inl (cJ, 1, .inr (.inl f))
theorem Met.ofX {l : Launch} {y : MethodName} {ws : List Cond} {rm : Room} {Pc : Array Value → State → Prop} {Qc : Array Value → State → Outcome → State → Prop} {mc ms : Nat} {free : Addr → Prop} (h : vx_Met l y ws rm Pc Qc (fun _ _ _ => False) mc ms free) : Met l y ws rm Pc Qc mc ms free := by
  intro p e ha hc hk s m args below hf happ hpre ht
  obtain ⟨k, o, h1, h2, h3, hQ⟩ := h p e ha hc hk s m args below hf happ hpre ht
  rcases hQ with hQ | ⟨q, -, E, ce, L, hX, -⟩
  · exact ⟨k, o, h1, h2, h3, hQ⟩
  · exact absurd hX id
/-- what passes the first handlers by -/
def XN (U : State) : Prop := va_Nc xISE xIAE U ∧ va_Nc xIAE xIOB U ∧ va_Nc xISE xIOB U
def hcode (kc : String → Int32) : Int32 ⊕ String → Int32
  | .inl _ => 0
  | .inr E => kc E
def hW (res : Int32 ⊕ String) (w w' : va_W) : va_W := match res with
  | .inl _ => w'
  | .inr _ => w
def HlP (D : va_G) (cI cT cJ : ClassId) (av : List Value) (w : va_W) (o : Nat) (f : Nat → Int64) (sz : Nat) : Array Value → State → Prop := fun a U => MxP D cI cT av w sz a U ∧ va_P D vwCl [(o, aJ cJ f)] U.heap ∧ (¬ o ∈ w.map Prod.fst) ∧ va_K D vwCl [(cJ, .long)] U ∧ XN U
def hc12 (E : String) : Int32 := if E = xIAE then 1 else 2
def hc1 (_ : String) : Int32 := 1
def hc123 (E : String) : Int32 := if E = xIOB then 1 else if E = xIAE then 2 else 3
def hcOA (E : String) : Int32 := if E = xIOB then 1 else 2
/-- a helper: it answers 0 and puts the race's answer into its row, or the number of the exception -/
abbrev MetH (l : Launch) (D : va_G) (cI cT cJ : ClassId) (y : MethodName) (ws : List Cond) (rm : Room) (av : List Value) (w w' : va_W) (o : Nat) (f : Nat → Int64) (kc : String → Int32) (res : Int32 ⊕ String) (mc ms sz : Nat) : Prop :=
  Met l y ws rm (HlP D cI cT cJ av w o f sz) (va_Qi (S := Nat → Int64) (fun z f2 => z = hcode kc res ∧ ∀ v, res = .inl v → f2 0 = Int32.toInt64 v) (fun f2 t => va_P D vwCl (hW res w w') t.heap ∧ va_P D vwCl [(o, aJ cJ f2)] t.heap) (frA (w.map Prod.fst ++ [o]) sz)) mc ms (frA (w.map Prod.fst ++ [o]) sz)
section SPH
variable {p : Program} {l : Launch} {e : Env} {R : Room} {s : State} {m : MethodId} {args : Array Value} {below : List Frame} {meth : Method} {c : Code} {H : Heap} {locs : List Loc} {cells slots : Nat} {Q : State → Prop}
variable {cc : ByteArray} {pc : Nat} {ls : Array Slot} {rest st0 : List Value} {D : va_G} {cI cT cJ : ClassId} {A : Nat → Prop} {Qc : Array Value → State → Outcome → State → Prop}
variable {y : MethodName} {bytes : ByteArray} {maxL nL n index : Nat} {ret : Option FieldType} {ws Ts : List Cond} {rm : Room} {own C : String} {b : Addr} {As : List Value} {W0 W1 : va_W}
/-- the race is called beside another cell: it answers, or it throws -/
theorem sp_oI {res : Int32 ⊕ String} {mc ms o : Nat} {eo : va_E} (S : CallFix p m c cc nL s args Ts own) (hM : MetO l D cI cT y ws rm (.ref b :: As) W0 W1 res mc ms H.size) (cw : CallW R s args own C index y bytes maxL ret ws rm mc ms n) (hK : KK D cI cT s)
    (hXZ : XZ A s s.heap) (hXS : XS s) (hP : va_P D vwCl W0 H) (hO : va_P D vwCl [(o, eo)] H) (ho : ¬ o ∈ W0.map Prod.fst) (hD : va_D A W0) (hS : va_S A s.heap H locs) (hA : ∀ q, s.heap.size ≤ q → A q) (hm : W1.map Prod.fst = W0.map Prod.fst)
    {ci : Nat} {q : vw_C} {fs : List Value} (hc : vwCl[ci]? = some q) (he : W0[0]? = some (b, .inr (ci, fs))) (hcC : q.1 = C) (hn : As.length = n) (hsize : ls.size = nL) (hst : st0 = As.reverse ++ .ref b :: rest) (hW : (rest.map fun v => v.category).sum ≤ 8)
    (hdg : decode cc pc = .ok (.invokevirtual index, 3)) (hf : cells + mc ≤ R.cells ∧ slots + ms ≤ R.slots)
    (kk : ∀ (z : Int32) (H1 : Heap) (locs1 : List Loc), res = .inl z → va_P D vwCl W1 H1 → va_P D vwCl [(o, eo)] H1 → va_D A W1 → va_S A s.heap H1 locs1 → W p l e R s m args below meth c H1 locs1 (cells + mc) (slots + ms) Q (F0 m (pc + 3) ls (.int z :: rest)))
    (kx : ∀ (E : String) (ce : Cell) (q9 : Addr) (H1 : Heap) (locs1 : List Loc), res = .inr E → va_P D vwCl W0 H1 → va_P D vwCl [(o, eo)] H1 → va_S A s.heap H1 locs1 → H1[q9]? = some ce → ce.vm = .none → s.vm.findClass E = some ce.cls → vx_W p l e R s m args below meth c H1 locs1 (cells + mc) (slots + ms) Q (F0 m pc ls rest) q9) : W p l e R s m args below meth c H locs cells slots Q (F0 m pc ls st0) := by
  subst hst hcC
  have hF := frA_in hD hS hA
  have hk0 : ∀ H1 : Heap, (∀ q : Nat, q < H.size → ¬ frA (W0.map Prod.fst) H.size q → H1[q]? = H[q]?) → va_P D vwCl [(o, eo)] H1 := fun H1 hk => hO.kept (fun i x hx => by
    have hlt := (hO i x hx).lt
    have e : x.1 = o := by
      cases i with
      | zero => cases hx; rfl
      | succ i => cases hx
    exact hk x.1 hlt (fun z => z.elim (fun z => ho (e ▸ z)) (fun z => absurd hlt (Nat.not_lt.mpr z))))
  refine vx_calli (vx_runV (rest := rest) S hM cw ⟨MxP.blind, va_recv hK.1 hP hc he, sp_mx hK hXZ hXS hP hD hS hA⟩ rfl hn hsize rfl (lv_room hW) hdg hf) hS (fun q _ h => hF q h) hF (fun q _ h => hF q h) (fun E ce q9 u t H1 locs1 ht hvm hu hB hz hk hS1 h1 h2 h3 => ?_) (fun z u t H1 locs1 ht hvm hw hB hz hk hS1 => ?_)
  · rw [ht] at hB
    exact kx E ce q9 H1 locs1 hB.1 hB.2 (hk0 H1 hk) hS1 h1 h2 h3
  · rw [ht] at hB
    exact kk z H1 locs1 hw hB (hk0 H1 hk) (sp_Dsame hm hD) hS1
/-- the answer is put into the row -/
theorem sp_ost {o : Nat} {f : Nat → Int64} {x : Int64} (hx : p.tables.exec = Jvm.exec) (hb : c.code = cc) (hJ : va_K D vwCl [(cJ, .long)] s) (hP : va_P D vwCl W0 H) (hO : va_P D vwCl [(o, aJ cJ f)] H) (ho : ¬ o ∈ W0.map Prod.fst) (hD : va_D A W0) (hAo : A o) (hS : va_S A s.heap H locs) (hdg : decode cc pc = .ok (.lastore, 1))
    (kk : ∀ (f2 : Nat → Int64) (H1 : Heap) (locs1 : List Loc), f2 0 = x → va_P D vwCl W0 H1 → va_P D vwCl [(o, aJ cJ f2)] H1 → va_S A s.heap H1 locs1 → W p l e R s m args below meth c H1 locs1 cells slots Q (F0 m (pc + 1) ls rest)) : W p l e R s m args below meth c H locs cells slots Q (F0 m pc ls (.long x :: .int 0 :: .ref o :: rest)) := by
  have hDo : va_D A [(o, aJ cJ f)] := ⟨fun i j x y hi hj _ => by
    have h1 := (List.getElem?_eq_some_iff.mp hi).1
    have h2 := (List.getElem?_eq_some_iff.mp hj).1
    simp at h1 h2; omega, fun i x hi => by
    cases i with
    | zero => cases hi; exact hAo
    | succ i => cases hi⟩
  have hD2 : va_D A (W0 ++ [(o, aJ cJ f)]) := va_D.app hD hDo (fun i j x y hi hj z => by
    cases j with
    | zero =>
      cases hj
      have z2 : x.1 = o := z
      exact ho (by rw [← z2]; exact List.mem_map_of_mem (List.mem_of_getElem? hi))
    | succ j => cases hj)
  have hlast : (W0 ++ [(o, aJ cJ f)])[W0.length]? = some (o, aJ cJ f) := by rw [List.getElem?_append_right (Nat.le_refl _), Nat.sub_self]; rfl
  refine va_last hx hb hJ (hP.app hO) hD2 hS W0.length 0 hlast rfl (show vp_in 0 1 from vp_in_nI (show 0 < 1 by decide) (by decide)) hdg (fun H1 locs1 hP1 hD1 hS1 => ?_)
  rw [List.set_append_right _ _ (Nat.le_refl _), Nat.sub_self] at hP1
  have e1 : ((0 : Int32)).toNatClampNeg = 0 := by decide
  rw [e1] at hP1
  refine kk (vp_updL f 0 x) H1 locs1 (by simp [vp_updL]) (xb_P hP1) (fun i z hi => ?_) hS1
  cases i with
  | zero =>
    cases hi
    exact hP1 W0.length _ (by rw [List.getElem?_append_right (Nat.le_refl _), Nat.sub_self]; rfl)
  | succ i => cases hi
end SPH
theorem XN.warm {s U : State} (hW : s.WarmedH U.vm) (h : XN s) : XN U := ⟨va_Nc.moved hW.alike h.1, va_Nc.moved hW.alike h.2.1, va_Nc.moved hW.alike h.2.2⟩
theorem XN.call {U : State} {g : JFrame} {mk : MethodId} {a : Array Value} (h : XN U) : XN (U.calling g mk a) := ⟨va_Nc.moved (u := U) (U := U.calling g mk a) (Vm.Alike.refl U.vm) h.1, va_Nc.moved (u := U) (U := U.calling g mk a) (Vm.Alike.refl U.vm) h.2.1, va_Nc.moved (u := U) (U := U.calling g mk a) (Vm.Alike.refl U.vm) h.2.2⟩
theorem HlP.blind {D : va_G} {cI cT cJ : ClassId} {av : List Value} {w : va_W} {o : Nat} {f : Nat → Int64} {sz : Nat} : FrameBlind (HlP D cI cT cJ av w o f sz) := fun a U g mk h => ⟨MxP.blind a U g mk h.1, h.2.1, h.2.2.1, va_K.moved (u := U) (U := U.calling g mk a) (Vm.Alike.refl U.vm) h.2.2.2.1, h.2.2.2.2.call⟩
