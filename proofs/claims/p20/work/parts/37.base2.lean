/-! Methods that make cells, and methods that may draw -/
def frA (fs : List Nat) (sz : Nat) : Nat → Prop := fun q => q ∈ fs ∨ sz ≤ q
def MaP (D : va_G) (cI cT : ClassId) (av : List Value) (w r : va_W) (sz : Nat) : Array Value → State → Prop := va_Pc av (fun U => U.heap.size = sz ∧ va_P D vwCl w U.heap ∧ va_P D vwCl r U.heap ∧ KK D cI cT U ∧ ((w ++ r).map Prod.fst).Nodup)
theorem MaP.blind {D : va_G} {cI cT : ClassId} {av : List Value} {w r : va_W} {sz : Nat} : FrameBlind (MaP D cI cT av w r sz) := fun _ _ _ _ h => ⟨h.1, h.2.1, h.2.2.1, h.2.2.2.1, h.2.2.2.2.1.call, h.2.2.2.2.2⟩
/-- a method that makes cells and keeps them: they lie behind w' at addresses that are told -/
abbrev MetVA (l : Launch) (D : va_G) (cI cT : ClassId) (y : MethodName) (ws : List Cond) (rm : Room) (av : List Value) (w r : va_W) (w' : List Nat → va_W) (k : Nat) (mc ms sz : Nat) : Prop := Met l y ws rm (MaP D cI cT av w r sz) (va_Qv (S := List Nat) (fun u => u.length = k) (fun u t => va_P D vwCl (w' u) t.heap ∧ va_D (frA (w.map Prod.fst) sz) (w' u)) (frA (w.map Prod.fst) sz)) mc ms (frA (w.map Prod.fst) sz)
/-- a method that may draw -/
abbrev MetDD (l : Launch) (D : va_G) (cI cT : ClassId) (y : MethodName) (ws : List Cond) (rm : Room) (av : List Value) (w r w' : va_W) (post : UInt64 → Prop) : Prop := MetD lw_cs l y ws rm (MuP D cI cT av w r) (va_Qd (S := Unit) (fun z _ => post z) (fun _ t => va_P D vwCl w' t.heap) (fr (w.map Prod.fst))) 0 0 (fr (w.map Prod.fst))
section SPA
variable {p : Program} {l : Launch} {e : Env} {R : Room} {s : State} {m : MethodId} {args : Array Value} {below : List Frame} {meth : Method} {c : Code} {H : Heap} {locs : List Loc} {cells slots : Nat} {Q : State → Prop}
variable {cc : ByteArray} {pc : Nat} {ls : Array Slot} {rest st0 : List Value} {D : va_G} {cI cT : ClassId} {A : Nat → Prop}
theorem KK.int {cA : ClassId} (hK : KK D cI cT s) {tys : List (ClassId × FieldType)} (h : va_K D vwCl (tys ++ [(cA, .int)]) s) : cA = cI := by
  have h1 : va_RA s cA .int := (h.2 tys.length (cA, .int) (by simp)).2
  have h2 : va_RA s cI .int := (hK.1.2 0 (cI, .int) rfl).2
  exact Option.some.inj (h1.symm.trans h2)
/-- a new row of ints -/
theorem sp_newa {wv : va_W} {H0 : Heap} (hx : p.tables.exec = Jvm.exec) (hb : c.code = cc) (harr : (Cond.arrayClass .int).before args s = true) (hK : KK D cI cT s) (hP : va_P D vwCl wv H) (hD : va_D A wv) (hS : va_S A H0 H locs) (hA : ∀ q, H0.size ≤ q → A q)
    {n : Int32} (N : Nat) (hn : n = nI N) (hN : N ≤ 1000) (hcells : cells + 1 ≤ R.cells) (hslots : slots + N ≤ R.slots) (hdg : decode cc pc = .ok (.newarray .int, 2))
    (kk : ∀ (q : Nat) (H1 : Heap), va_P D vwCl (wv ++ [(q, aI cI N (fun _ => 0))]) H1 → va_D A (wv ++ [(q, aI cI N (fun _ => 0))]) → va_S A H0 H1 locs →
      W p l e R s m args below meth c H1 locs (cells + 1) (slots + N) Q (F0 m (pc + 2) ls (.ref q :: rest))) : W p l e R s m args below meth c H locs cells slots Q (F0 m pc ls (.int n :: rest)) := by
  subst hn
  refine va_newa (atype := .int) (ty := .int) (N' := N) (a0 := (N, .inl (fun _ => 0))) hx hb harr rfl hK.1 hP hD hS hA (fun cA => rfl) (nI_pos (by omega)) (nI_clamp (by omega)) (by show N * 4 ≤ 536870912; omega) hcells hslots hdg (fun q cA H1 hK1 hP1 hD1 hS1 => ?_)
  have e := hK.int (tys := [(cI, .int), (cT, .object RX0)]) hK1
  subst e
  exact kk q H1 hP1 hD1 hS1
end SPA
def meanP (sum : Int32) (n : Nat) (z : UInt64) : Prop := (n = 0 → z = FP.dconst0) ∧ (¬ n = 0 → alike64 z (FP.ddiv (FP.i2d sum) (FP.i2d (nI n))) = true)
