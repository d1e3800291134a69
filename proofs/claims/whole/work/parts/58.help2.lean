/-! The helpers' contract (in place of MetH: the statics are no cell of the row either) -/
def hWd (res : Int32 ⊕ String) (w w' : va_W) : va_W := match res with
  | .inl _ => w'
  | .inr _ => w
def HmP (D : va_G) (cI cT cJ : ClassId) (av : List Value) (w : va_W) (o : Nat) (f : Nat → Int64) (sz : Nat) : Array Value → State → Prop := fun a U => (MaP D cI cT av w [] sz a U ∧ XZ (frA (w.map Prod.fst ++ [o]) sz) U U.heap ∧ XS U) ∧ va_P D vwCl [(o, aJ cJ f)] U.heap ∧ (¬ o ∈ w.map Prod.fst) ∧ va_K D vwCl [(cJ, .long)] U ∧ XN U
theorem HmP.blind {D : va_G} {cI cT cJ : ClassId} {av : List Value} {w : va_W} {o : Nat} {f : Nat → Int64} {sz : Nat} : FrameBlind (HmP D cI cT cJ av w o f sz) := fun a U g mk h => ⟨⟨MaP.blind a U g mk h.1.1, h.1.2.1.call, h.1.2.2.call⟩, h.2.1, h.2.2.1, va_K.moved (u := U) (U := U.calling g mk a) (Vm.Alike.refl U.vm) h.2.2.2.1, h.2.2.2.2.call⟩
/-- a helper: it answers 0 and puts the race's answer into its row, or the number of the exception -/
abbrev MetHm (l : Launch) (D : va_G) (cI cT cJ : ClassId) (y : MethodName) (ws : List Cond) (rm : Room) (av : List Value) (w w' : va_W) (o : Nat) (f : Nat → Int64) (kc : String → Int32) (res : Int32 ⊕ String) (mc ms sz : Nat) : Prop :=
  Met l y ws rm (HmP D cI cT cJ av w o f sz) (va_Qi (S := Nat → Int64) (fun z f2 => z = hcode kc res ∧ ∀ v, res = .inl v → f2 0 = Int32.toInt64 v) (fun f2 t => va_P D vwCl (hWd res w w') t.heap ∧ va_P D vwCl [(o, aJ cJ f2)] t.heap) (frA (w.map Prod.fst ++ [o]) sz)) mc ms (frA (w.map Prod.fst ++ [o]) sz)
