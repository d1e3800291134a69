/-! The law's addTeam: the race keeps new cells -/
def hWN (D : va_G) (res : Int32 ⊕ String) (w : va_W) (w' : List Nat → va_W) (A : Nat → Prop) (u : List Nat) (k : Nat) (H : Heap) : Prop := match res with
  | .inl _ => u.length = k ∧ va_P D vwCl (w' u) H ∧ va_D A (w' u)
  | .inr _ => va_P D vwCl w H
abbrev MetHN (l : Launch) (D : va_G) (cI cT cJ : ClassId) (y : MethodName) (ws : List Cond) (rm : Room) (av : List Value) (w : va_W) (w' : List Nat → va_W) (k : Nat) (o : Nat) (f : Nat → Int64) (kc : String → Int32) (res : Int32 ⊕ String) (mc ms sz : Nat) : Prop :=
  Met l y ws rm (HmP D cI cT cJ av w o f sz) (va_Qi (S := List Nat × (Nat → Int64)) (fun z q => z = hcode kc res ∧ ∀ v, res = .inl v → q.2 0 = Int32.toInt64 v) (fun q t => hWN D res w w' (frA (w.map Prod.fst) sz) q.1 k t.heap ∧ va_P D vwCl [(o, aJ cJ q.2)] t.heap) (frA (w.map Prod.fst ++ [o]) sz)) mc ms (frA (w.map Prod.fst ++ [o]) sz)
theorem frA_no {D : va_G} {w w2 : va_W} {sz o : Nat} (ho : ¬ o ∈ w.map Prod.fst) (hlt : o < sz) (hD : va_D (frA (w.map Prod.fst) sz) w2) : ¬ o ∈ w2.map Prod.fst := fun h => by
  obtain ⟨x, hx, rfl⟩ := List.mem_map.mp h
  obtain ⟨k, hk⟩ := List.getElem?_of_mem hx
  rcases hD.2 k x hk with q | q
  · exact ho q
  · omega
section SPN
variable {p : Program} {l : Launch} {e : Env} {R : Room} {s : State} {m : MethodId} {args : Array Value} {below : List Frame} {meth : Method} {c : Code} {H : Heap} {locs : List Loc} {cells slots : Nat} {Q : State → Prop}
variable {cc : ByteArray} {pc : Nat} {ls : Array Slot} {rest st0 : List Value} {D : va_G} {cI cT cJ : ClassId} {A : Nat → Prop}
variable {y : MethodName} {bytes : ByteArray} {maxL nL n index : Nat} {ret : Option FieldType} {ws Ts : List Cond} {rm : Room} {own C : String} {b : Addr} {As : List Value} {W0 : va_W}
theorem sp_oIN {res : Int32 ⊕ String} {mc ms o k : Nat} {eo : va_E} {w' : List Nat → va_W} (S : CallFix p m c cc nL s args Ts own) (hM : MetON l D cI cT y ws rm (.ref b :: As) W0 w' k res mc ms H.size) (cw : CallW R s args own C index y bytes maxL ret ws rm mc ms n) (hK : KK D cI cT s)
    (hXZ : XZ A s s.heap) (hXS : XS s) (hP : va_P D vwCl W0 H) (hO : va_P D vwCl [(o, eo)] H) (ho : ¬ o ∈ W0.map Prod.fst) (hD : va_D A W0) (hS : va_S A s.heap H locs) (hA : ∀ q, s.heap.size ≤ q → A q)
    {ci : Nat} {q : vw_C} {fs : List Value} (hc : vwCl[ci]? = some q) (he : W0[0]? = some (b, .inr (ci, fs))) (hcC : q.1 = C) (hn : As.length = n) (hsize : ls.size = nL) (hst : st0 = As.reverse ++ .ref b :: rest) (hW : (rest.map fun v => v.category).sum ≤ 8)
    (hdg : decode cc pc = .ok (.invokevirtual index, 3)) (hf : cells + mc ≤ R.cells ∧ slots + ms ≤ R.slots)
    (kk : ∀ (z : Int32) (u : List Nat) (H1 : Heap) (locs1 : List Loc), res = .inl z → u.length = k → va_P D vwCl (w' u) H1 → va_P D vwCl [(o, eo)] H1 → va_D (frA (W0.map Prod.fst) H.size) (w' u) → va_D A (w' u) → (¬ o ∈ (w' u).map Prod.fst) → va_S A s.heap H1 locs1 → W p l e R s m args below meth c H1 locs1 (cells + mc) (slots + ms) Q (F0 m (pc + 3) ls (.int z :: rest)))
    (kx : ∀ (E : String) (ce : Cell) (q9 : Addr) (H1 : Heap) (locs1 : List Loc), res = .inr E → va_P D vwCl W0 H1 → va_P D vwCl [(o, eo)] H1 → va_S A s.heap H1 locs1 → H1[q9]? = some ce → ce.vm = .none → s.vm.findClass E = some ce.cls → vx_W p l e R s m args below meth c H1 locs1 (cells + mc) (slots + ms) Q (F0 m pc ls rest) q9) : W p l e R s m args below meth c H locs cells slots Q (F0 m pc ls st0) := by
  subst hst hcC
  have hF := frA_in hD hS hA
  have hlt : o < H.size := (hO 0 (o, eo) rfl).lt
  have hk0 : ∀ H1 : Heap, (∀ q : Nat, q < H.size → ¬ frA (W0.map Prod.fst) H.size q → H1[q]? = H[q]?) → va_P D vwCl [(o, eo)] H1 := fun H1 hk => hO.kept (fun i x hx => by
    have e : x.1 = o := by
      cases i with
      | zero => cases hx; rfl
      | succ i => cases hx
    exact hk x.1 (by rw [e]; exact hlt) (fun z => z.elim (fun z => ho (e ▸ z)) (fun z => absurd hlt (Nat.not_lt.mpr (e ▸ z)))))
  refine vx_calli (vx_runV (rest := rest) S hM cw ⟨MxP.blind, va_recv hK.1 hP hc he, sp_mx hK hXZ hXS hP hD hS hA⟩ rfl hn hsize rfl (lv_room hW) hdg hf) hS (fun q _ h => hF q h) hF (fun q _ h => hF q h) (fun E ce q9 u t H1 locs1 ht hvm hu hB hz hk hS1 h1 h2 h3 => ?_) (fun z u t H1 locs1 ht hvm hw hB hz hk hS1 => ?_)
  · rw [ht] at hB
    exact kx E ce q9 H1 locs1 hB.1 hB.2 (hk0 H1 hk) hS1 h1 h2 h3
  · rw [ht] at hB
    exact kk z u H1 locs1 hw.1 hw.2 hB.1 (hk0 H1 hk) hB.2 (hB.2.weaken (fun _ _ _ z => hF _ z)) (frA_no (D := D) ho hlt hB.2) hS1
end SPN
