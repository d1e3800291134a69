/-! Methods that make cells, and methods that may draw -/
def frA (fs : List Nat) (sz : Nat) : Nat → Prop := fun q => q ∈ fs ∨ sz ≤ q
def MaP (D : va_G) (cI cT : ClassId) (av : List Value) (w r : va_W) (sz : Nat) : Array Value → State → Prop := va_Pc av (fun U => U.heap.size = sz ∧ va_P D vwCl w U.heap ∧ va_P D vwCl r U.heap ∧ KK D cI cT U ∧ ((w ++ r).map Prod.fst).Nodup)
theorem MaP.blind {D : va_G} {cI cT : ClassId} {av : List Value} {w r : va_W} {sz : Nat} : FrameBlind (MaP D cI cT av w r sz) := fun _ _ _ _ h => ⟨h.1, h.2.1, h.2.2.1, h.2.2.2.1, h.2.2.2.2.1.call, h.2.2.2.2.2⟩
/-- a method that writes w and makes cells, which it leaves: its answer is v -/
abbrev MetIA (l : Launch) (D : va_G) (cI cT : ClassId) (y : MethodName) (ws : List Cond) (rm : Room) (av : List Value) (w r w' : va_W) (v : Int32) (mc ms sz : Nat) : Prop := Met l y ws rm (MaP D cI cT av w r sz) (va_Qi (S := Unit) (fun z _ => z = v) (fun _ t => va_P D vwCl w' t.heap) (frA (w.map Prod.fst) sz)) mc ms (frA (w.map Prod.fst) sz)
/-- a method that makes cells and keeps them: they lie behind w' at addresses that are told -/
abbrev MetVA (l : Launch) (D : va_G) (cI cT : ClassId) (y : MethodName) (ws : List Cond) (rm : Room) (av : List Value) (w r : va_W) (w' : List Nat → va_W) (k : Nat) (mc ms sz : Nat) : Prop := Met l y ws rm (MaP D cI cT av w r sz) (va_Qv (S := List Nat) (fun u => u.length = k) (fun u t => va_P D vwCl (w' u) t.heap ∧ va_D (frA (w.map Prod.fst) sz) (w' u)) (frA (w.map Prod.fst) sz)) mc ms (frA (w.map Prod.fst) sz)
/-- a method that may draw -/
abbrev MetDD (l : Launch) (D : va_G) (cI cT : ClassId) (y : MethodName) (ws : List Cond) (rm : Room) (av : List Value) (w r w' : va_W) (post : UInt64 → Prop) : Prop := MetD lw_cs l y ws rm (MuP D cI cT av w r) (va_Qd (S := Unit) (fun z _ => post z) (fun _ t => va_P D vwCl w' t.heap) (fr (w.map Prod.fst))) 0 0 (fr (w.map Prod.fst))
section SPA
variable {p : Program} {l : Launch} {e : Env} {R : Room} {s : State} {m : MethodId} {args : Array Value} {below : List Frame} {meth : Method} {c : Code} {H : Heap} {locs : List Loc} {cells slots : Nat} {Q : State → Prop}
variable {cc : ByteArray} {pc : Nat} {ls : Array Slot} {rest st0 : List Value} {D : va_G} {cI cT : ClassId} {A : Nat → Prop}
theorem KK.int {cA : ClassId} (hK : KK D cI cT s) {tys : List (ClassId × FieldType)} (h : va_K D vwCl (tys ++ [(cA, .int)]) s) : cA = cI := by
  have h1 : va_RA s cA .int := (h.2 tys.length (cA, .int) (by simp)).2
  have h2 : va_RA s cI .int := (hK.1.2 0 (cI, .int) rfl).2
  exact Option.some.inj (h1.symm.trans h2)
/-- a new row of ints -/
theorem sp_newa {wv : va_W} {H0 : Heap} (hx : p.tables.exec = Jvm.exec) (hb : c.code = cc) (harr : (Cond.arrayClass .int).before args s = true) (hK : KK D cI cT s) (hP : va_P D vwCl wv H) (hD : va_D A wv) (hS : va_S A H0 H locs) (hA : ∀ q, H0.size ≤ q → A q)
    {n : Int32} (N : Nat) (hn : n = nI N) (hN : N ≤ 1000) (hcells : cells + 1 ≤ R.cells) (hslots : slots + N ≤ R.slots) (hdg : decode cc pc = .ok (.newarray .int, 2))
    (kk : ∀ (q : Nat) (H1 : Heap), va_P D vwCl (wv ++ [(q, aI cI N (fun _ => 0))]) H1 → va_D A (wv ++ [(q, aI cI N (fun _ => 0))]) → va_S A H0 H1 locs →
      W p l e R s m args below meth c H1 locs (cells + 1) (slots + N) Q (F0 m (pc + 2) ls (.ref q :: rest))) : W p l e R s m args below meth c H locs cells slots Q (F0 m pc ls (.int n :: rest)) := by
  subst hn
  refine va_newa (atype := .int) (ty := .int) (N' := N) (a0 := (N, .inl (fun _ => 0))) hx hb harr rfl hK.1 hP hD hS hA (fun cA => rfl) (nI_pos (by omega)) (nI_clamp (by omega)) (by show N * 4 ≤ 536870912; omega) hcells hslots hdg (fun q cA H1 hK1 hP1 hD1 hS1 => ?_)
  have e := hK.int (tys := [(cI, .int), (cT, .object RX0)]) hK1
  subst e
  exact kk q H1 hP1 hD1 hS1
end SPA
theorem upd_twice (f : Nat → Int32) (i : Nat) (x y : Int32) : upd (upd f i x) i y = upd f i y := by
  funext j; simp only [upd]; split <;> rfl
theorem setT_back (tv : Nat → TV) (i : Nat) (v : Int32) : setT tv i (upd (upd (tv i).1 7 v) 7 ((tv i).1 7), (tv i).2.1, (tv i).2.2.1, (tv i).2.2.2) = tv := by
  have e : upd (upd (tv i).1 7 v) 7 ((tv i).1 7) = (tv i).1 := by
    funext j; simp only [upd]; by_cases h : j = 7 <;> simp [h]
  rw [e]
  exact setT_self tv i
theorem setT_eff0 (tv : Nat → TV) (i : Nat) : setT tv i (upd (tv i).1 7 ((tv i).1 7), (tv i).2.1, (tv i).2.2.1, (tv i).2.2.2) = tv := by
  have e : upd (tv i).1 7 ((tv i).1 7) = (tv i).1 := by
    funext j; simp only [upd]; by_cases h : j = 7 <;> simp [h]
  rw [e]
  exact setT_self tv i
theorem setT_ok {tv : Nat → TV} {nt i : Nat} {v : Int32} (h : ∀ t, t < nt → mOK (tv t)) (hi : i < nt) : ∀ t, t < nt → mOK (setT tv i (upd (tv i).1 7 v, (tv i).2.1, (tv i).2.2.1, (tv i).2.2.2) t) := by
  intro t ht
  by_cases q : t = i
  · subst q; rw [setT_i]; exact mOK_eff (T := tv t) (h t ht)
  · rw [setT_ne _ q]; exact h t ht
def mEffT (tv : Nat → TV) (i : Nat) (v : Int32) : Nat → TV := setT tv i (upd (tv i).1 7 v, (tv i).2.1, (tv i).2.2.1, (tv i).2.2.2)
def mAdvZ (x k : Int32) (MF : Nat → Int32) (tv : Nat → TV) (z : Nat → Int32) : Nat → Int32 :=
  if (isIn x 0 (MF 2 - 1) && isIn k 1 200) = true then tab (mEffT tv x.toNatClampNeg (nI 10)) else z
def mZ (tv : Nat → TV) (i : Nat) (z : Nat → Int32) : Nat → Nat → Int32
  | 0 => z
  | e + 1 => tab (mEffT tv i (nI e))
theorem mSeeC_see {MF g : Nat → Int32} {ns nt : Nat} {tv : Nat → TV} {i k : Nat} {v : Int32} (h1 : isIn (nI i) 0 (MF 2 - 1) = true) (hi : i < 6) (hk1 : 1 ≤ k) (hk : k ≤ 200) :
    mSeeC (nI i) (nI k) 0 (upd MF 0 0) g ns nt (mEffT tv i v) = (mTry MF g ns nt tv i k v, upd MF 0 0) ∧ ∀ z, mSeeZ (nI i) (nI k) 0 (upd MF 0 0) (mEffT tv i v) z = tab (mEffT tv i v) := by
  have h := mSeeC_try (MF := upd MF 0 0) (g := g) (ns := ns) (nt := nt) (tv := mEffT tv i v) (k := k) h1 hi hk1 hk
  rw [upd_twice] at h
  exact h
def meanP (sum : Int32) (n : Nat) (z : UInt64) : Prop := (n = 0 → z = FP.dconst0) ∧ (¬ n = 0 → alike64 z (FP.ddiv (FP.i2d sum) (FP.i2d (nI n))) = true)
/-- ints put into a row of the table at once -/
theorem tab_cpy (tv : Nat → TV) (f : Nat → Int32) {i a n : Nat} (h : a + n ≤ 15) : va_cpy f (tab tv) 0 (29 * i + a) n = tab (setT tv i (fun j => if a ≤ j ∧ j < a + n then f (j - a) else (tv i).1 j, (tv i).2)) := by
  funext k
  simp only [va_cpy, tab, setT]
  by_cases hk : 29 * i + a ≤ k ∧ k < 29 * i + a + n
  · rw [if_pos hk, if_pos (show k / 29 = i by omega)]
    unfold row
    rw [if_pos (show k % 29 < 15 by omega)]
    show f _ = if a ≤ k % 29 ∧ k % 29 < a + n then f (k % 29 - a) else _
    rw [if_pos (by omega), show 0 + (k - (29 * i + a)) = k % 29 - a by omega]
  · rw [if_neg hk]
    by_cases hi : k / 29 = i
    · rw [if_pos hi]
      subst hi
      unfold row
      by_cases h2 : k % 29 < 15
      · rw [if_pos h2, if_pos h2]
        show _ = if a ≤ k % 29 ∧ k % 29 < a + n then f (k % 29 - a) else _
        rw [if_neg (by omega)]
      · rw [if_neg h2, if_neg h2]
    · rw [if_neg hi]
def mSaid3 (x a b : Int32) : Nat → Int32 := upd (upd (upd (fun _ => 0) 0 x) 1 a) 2 b
def mLay (x a b : Int32) (MF g : Nat → Int32) (ns : Nat) : Int32 × (Nat → Int32) × (Nat → Int32) :=
  if ((isIn x 0 1999 && isIn a (-5) 5) && isIn b 0 9) = true then
    (if g (3 * mStr g x (ns - 1)) = x then (nI ns, upd MF 0 0, va_cpy (mSaid3 x a b) g 0 (3 * mStr g x (ns - 1)) 3)
     else if ns = 12 then (0, upd MF 0 2, g)
     else (nI (ns + 1), upd (upd MF 0 0) 5 (nI (ns + 1)), va_cpy (mSaid3 x a b) (va_cpy g g (3 * (mStr g x (ns - 1) + 1)) (3 * (mStr g x (ns - 1) + 1 + 1)) (3 * (ns - (mStr g x (ns - 1) + 1)))) 0 (3 * (mStr g x (ns - 1) + 1)) 3))
  else (0, upd MF 0 1, g)
def mSaid9 (x a b : Int32) : Nat → Int32 := upd (upd (upd (upd (upd (upd (upd (upd (upd (fun _ => 0) 0 x) 1 a) 2 b) 3 4) 4 10) 5 1) 6 200) 7 5) 8 10
def mNewRow (x a b : Int32) (T : TV) : TV := (fun j => if 0 ≤ j ∧ j < 0 + 9 then mSaid9 x a b (j - 0) else T.1 j, T.2)
def mAddC (x a b : Int32) (MF : Nat → Int32) (nt : Nat) (tv : Nat → TV) : Int32 × (Nat → Int32) × (Nat → TV) :=
  if ((isIn x 20 80 && isIn a 10 99) && isIn b 2 8) = true then
    (if nt = 6 ∨ ¬ MF 1 = 0 then (0, upd MF 0 2, tv) else (nI nt, upd (upd MF 0 0) 2 (nI (nt + 1)), setT tv nt (mBegin b.toNatClampNeg (mNewRow x a b (tv nt)))))
  else (0, upd MF 0 1, tv)
def mSaid4 (a b d r : Int32) : Nat → Int32 := upd (upd (upd (upd (fun _ => 0) 0 a) 1 b) 2 d) 3 r
def mCrewRow (a b d r : Int32) (T : TV) : TV := (upd (fun j => if 3 ≤ j ∧ j < 3 + 4 then mSaid4 a b d r (j - 3) else T.1 j) 11 r, T.2)
def mCrewC (x a b d r : Int32) (MF : Nat → Int32) (tv : Nat → TV) : Int32 × (Nat → Int32) × (Nat → TV) :=
  if isIn x 0 (MF 2 - 1) = true then
    (if (((isIn a 1 9 && isIn b 1 20) && isIn d 1 3) && isIn r 20 400) = true then
      (if MF 1 = 0 then ((tv x.toNatClampNeg).1 3, upd MF 0 0, setT tv x.toNatClampNeg (mCrewRow a b d r (tv x.toNatClampNeg))) else (0, upd MF 0 3, tv))
     else (0, upd MF 0 2, tv))
  else (0, upd MF 0 1, tv)
def mInitF : Nat → Int32 := upd (upd (fun _ => 0) 3 500) 5 1
