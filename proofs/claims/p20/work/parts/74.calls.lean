/-! p20: calls of the law's own methods beside other cells; the ground of both sides -/
section PLC
variable {p : Program} {l : Launch} {e : Env} {R : Room} {s : State} {m : MethodId} {args : Array Value} {below : List Frame} {meth : Method} {c : Code} {H : Heap} {locs : List Loc} {cells slots : Nat} {Q : State → Prop}
variable {cc : ByteArray} {pc : Nat} {ls : Array Slot} {rest st0 : List Value} {D : va_G} {cI cT cL cG cZ : ClassId} {A : Nat → Prop}
variable {y : MethodName} {bytes : ByteArray} {maxL nL n index : Nat} {ret : Option FieldType} {ws Ts : List Cond} {rm : Room} {own C host : String} {b : Addr} {As : List Value} {W0 w : va_W}
theorem pl_mk {av : List Value} (hX : KX D cI cT cL cG cZ s) (hP : va_P D vwCl (w ++ W0) H) (hD : va_D A (w ++ W0)) : ∀ U : State, U.heap = H → s.WarmedH U.vm → MkP D cI cT cL cG cZ av w H.size av.toArray U :=
  fun U hU hW => ⟨rfl, by rw [hU], by rw [hU]; exact xb_P hP, hX.warm hW, sp_nod (pl_preD hD)⟩
theorem pl_mj {H1 : Heap} {w1 : va_W} (hP : va_P D vwCl (w ++ W0) H) (hD : va_D A (w ++ W0)) (hF : ∀ q, frA (w.map Prod.fst) H.size q → A q) (hk : ∀ q : Nat, q < H.size → ¬ frA (w.map Prod.fst) H.size q → H1[q]? = H[q]?) (hP1 : va_P D vwCl w1 H1) (hD1 : va_D (frA (w.map Prod.fst) H.size) w1) : va_P D vwCl (w1 ++ W0) H1 ∧ va_D A (w1 ++ W0) := by
  obtain ⟨hP2, hD2⟩ := pl_swap hP hD
  exact pl_swap (va_P.app (pl_pre hP2 hD2 hk) hP1) (pl_appD hP2 (Nat.le_refl _) hD2 hD1 hF)
theorem pl_vK {S : Type} {good : S → Prop} {w' : S → va_W} {mc ms : Nat} (Sx : CallFix p m c cc nL s args Ts own) (hM : MetK (S := S) l D cI cT cL cG cZ y ws rm (.ref b :: As) w good w' mc ms H.size) (cw : CallW R s args own C index y bytes maxL none ws rm mc ms n) (hX : KX D cI cT cL cG cZ s)
    (hP : va_P D vwCl (w ++ W0) H) (hD : va_D A (w ++ W0)) (hS : va_S A s.heap H locs) (hA : ∀ q, s.heap.size ≤ q → A q)
    {ci : Nat} {q : vw_C} {fs : List Value} (hc : vwCl[ci]? = some q) (he : w[0]? = some (b, .inr (ci, fs))) (hcC : q.1 = C) (hn : As.length = n) (hsize : ls.size = nL) (hst : st0 = As.reverse ++ .ref b :: rest) (hW : (rest.map fun v => v.category).sum ≤ 8)
    (hdg : decode cc pc = .ok (.invokevirtual index, 3)) (hf : cells + mc ≤ R.cells ∧ slots + ms ≤ R.slots)
    (kk : ∀ (u : S) (H1 : Heap) (locs1 : List Loc), good u → va_P D vwCl (w' u ++ W0) H1 → va_D A (w' u ++ W0) → va_S A s.heap H1 locs1 → W p l e R s m args below meth c H1 locs1 (cells + mc) (slots + ms) Q (F0 m (pc + 3) ls rest)) : W p l e R s m args below meth c H locs cells slots Q (F0 m pc ls st0) := by
  subst hst hcC
  have hF := frA_in (pl_preD hD) hS hA
  refine va_callv (va_runV (rest := rest) Sx hM cw ⟨MkP.blind, va_recv hX.1.1 (xb_P hP) hc he, pl_mk hX hP hD⟩ rfl hn hsize rfl (lv_room hW) hdg hf) hS (fun q _ h => hF q h) hF (fun u t H1 locs1 ht hvm hw hB hz hk hS1 => ?_)
  rw [ht] at hB
  obtain ⟨h1, h2⟩ := pl_mj hP hD hF hk hB.1 hB.2
  exact kk u H1 locs1 hw h1 h2 hS1
theorem pl_iK {S : Type} {good : S → Prop} {w' : S → va_W} {mc ms : Nat} (Sx : CallFix p m c cc nL s args Ts own) (hM : MetK (S := S) l D cI cT cL cG cZ y ws rm (.ref b :: As) w good w' mc ms H.size) (cw : va_CN R s args own index y host bytes maxL none ws rm mc ms n ∧ y.name = "<init>" ∧ (Cond.instanceMethod y).before args s = true) (hX : KX D cI cT cL cG cZ s)
    (hP : va_P D vwCl (w ++ W0) H) (hD : va_D A (w ++ W0)) (hS : va_S A s.heap H locs) (hA : ∀ q, s.heap.size ≤ q → A q)
    (hn : As.length = n) (hsize : ls.size = nL) (hst : st0 = As.reverse ++ .ref b :: rest) (hW : (rest.map fun v => v.category).sum ≤ 8)
    (hdg : decode cc pc = .ok (.invokespecial index, 3)) (hf : cells + mc ≤ R.cells ∧ slots + ms ≤ R.slots)
    (kk : ∀ (u : S) (H1 : Heap) (locs1 : List Loc), good u → va_P D vwCl (w' u ++ W0) H1 → va_D A (w' u ++ W0) → va_S A s.heap H1 locs1 → W p l e R s m args below meth c H1 locs1 (cells + mc) (slots + ms) Q (F0 m (pc + 3) ls rest)) : W p l e R s m args below meth c H locs cells slots Q (F0 m pc ls st0) := by
  subst hst
  have hF := frA_in (pl_preD hD) hS hA
  refine va_callv (va_runIN (rest := rest) Sx hM cw ⟨MkP.blind, pl_mk hX hP hD⟩ rfl hn hsize rfl (lv_room hW) hdg hf) hS (fun q _ h => hF q h) hF (fun u t H1 locs1 ht hvm hw hB hz hk hS1 => ?_)
  rw [ht] at hB
  obtain ⟨h1, h2⟩ := pl_mj hP hD hF hk hB.1 hB.2
  exact kk u H1 locs1 hw h1 h2 hS1
end PLC
/-! the ground: the starts are the same -/
def Srt (st : Nat → Int32) (mm : Nat) : Prop := ∀ i j, i < j → j < mm → st i < st j
def Sam (S : Nat → Int32) (ns : Nat) (st : Nat → Int32) (mm : Nat) : Prop := ∀ v, (∃ i, i < ns ∧ S i = v) ↔ ∃ i, i < mm ∧ st i = v
def GndI (S : Nat → Int32) (ns : Nat) (st : Nat → Int32) : Prop := Srt st ns ∧ Sam S ns st ns
theorem gK_lt {st : Nat → Int32} {mm j : Nat} {x : Int32} (h : j < gK st mm x) : st j < x := by
  have := ft_no (fun j => decide (¬ st j < x)) mm j h
  exact Classical.byContradiction fun z => by
    have h2 := of_decide_eq_false this
    exact h2 z
theorem gK_nlt {st : Nat → Int32} {mm : Nat} {x : Int32} (h : gK st mm x < mm) : ¬ st (gK st mm x) < x := of_decide_eq_true (ft_yes (fun j => decide (¬ st j < x)) mm h)
theorem gT_iff {st : Nat → Int32} {mm : Nat} {x : Int32} (hs : Srt st mm) : gT st mm x = true ↔ ∃ i, i < mm ∧ st i = x := by
  constructor
  · intro h
    have h2 := of_decide_eq_true h
    exact ⟨_, h2.1, h2.2⟩
  · rintro ⟨i, hi, e⟩
    have hk : i = gK st mm x := gK_eq (by omega) (fun j hj => by rw [← e]; exact hs j i hj hi) (Or.inr (by rw [e]; exact Int32.lt_irrefl))
    exact decide_eq_true ⟨by rw [← hk]; exact hi, by rw [← hk]; exact e⟩
theorem fnd_iff {S : Nat → Int32} {ns : Nat} {x : Int32} : fnd S x ns < ns ↔ ∃ i, i < ns ∧ S i = x := by
  constructor
  · intro h; exact ⟨_, h, fnd_yes S x ns h⟩
  · rintro ⟨i, hi, e⟩
    refine Classical.byContradiction fun z => ?_
    exact fnd_no S x ns i (by omega) e
/-- how many stretches there are then -/
def cNs (S : Nat → Int32) (ns : Nat) (x : Int32) : Nat := if fnd S x ns = ns then ns + 1 else ns
theorem gnd_ns {S st : Nat → Int32} {ns : Nat} {x : Int32} (h : GndI S ns st) : gM st ns x = cNs S ns x := by
  have hl := fnd_le S x ns
  unfold gM cNs
  by_cases c : gT st ns x = true
  · have h1 := (gT_iff h.1).mp c
    have h2 := fnd_iff.mpr ((h.2 x).mpr h1)
    rw [if_pos c, if_neg (by omega)]; rfl
  · have h1 : ¬ fnd S x ns < ns := fun z => c ((gT_iff h.1).mpr ((h.2 x).mp (fnd_iff.mp z)))
    rw [if_neg c, if_pos (by omega)]
theorem gS_set {st : Nat → Int32} {ns : Nat} {x : Int32} (hs : Srt st ns) (v : Int32) : (∃ i, i < gM st ns x ∧ gS st ns x i = v) ↔ v = x ∨ ∃ i, i < ns ∧ st i = v := by
  have hK := gK_le st ns x
  unfold gM gS
  by_cases c : gT st ns x = true
  · have h2 := of_decide_eq_true c
    rw [if_pos c]
    constructor
    · rintro ⟨i, hi, e⟩
      split at e
      · exact Or.inr ⟨i, by omega, e⟩
      · split at e
        · exact Or.inl e.symm
        · exact Or.inr ⟨i, by omega, by first | exact e | (rw [if_pos c] at e; exact e)⟩
    · rintro (e | ⟨i, hi, e⟩)
      · exact ⟨gK st ns x, by omega, by rw [if_neg (by omega), if_pos rfl]; exact e.symm⟩
      · refine ⟨i, by omega, ?_⟩
        by_cases c1 : i < gK st ns x
        · rw [if_pos c1]; exact e
        · rw [if_neg c1]
          by_cases c2 : i = gK st ns x
          · rw [if_pos c2, ← e, c2]; exact h2.2.symm
          · rw [if_neg c2, if_pos c]; exact e
  · rw [if_neg c]
    constructor
    · rintro ⟨i, hi, e⟩
      split at e
      · exact Or.inr ⟨i, by omega, e⟩
      · split at e
        · exact Or.inl e.symm
        · exact Or.inr ⟨i - 1, by omega, by first | exact e | (rw [if_neg c] at e; exact e)⟩
    · rintro (e | ⟨i, hi, e⟩)
      · exact ⟨gK st ns x, by omega, by rw [if_neg (by omega), if_pos rfl]; exact e.symm⟩
      · by_cases c1 : i < gK st ns x
        · exact ⟨i, by omega, by rw [if_pos c1]; exact e⟩
        · exact ⟨i + 1, by omega, by rw [if_neg (show ¬ i + 1 < gK st ns x by omega), if_neg (show ¬ i + 1 = gK st ns x by omega), if_neg c]; exact e⟩
theorem gS_srt {st : Nat → Int32} {ns : Nat} {x : Int32} (hs : Srt st ns) : Srt (gS st ns x) (gM st ns x) := by
  have hK := gK_le st ns x
  have hl : ∀ j, j < gK st ns x → (st j).toInt < x.toInt := fun j hj => Int32.lt_iff_toInt_lt.mp (gK_lt hj)
  have hs2 : ∀ i j, i < j → j < ns → (st i).toInt < (st j).toInt := fun i j h1 h2 => Int32.lt_iff_toInt_lt.mp (hs i j h1 h2)
  intro i j hij hj
  rw [Int32.lt_iff_toInt_lt]
  unfold gM at hj
  unfold gS
  by_cases c : gT st ns x = true
  · have h2 := of_decide_eq_true c
    have hx : (st (gK st ns x)).toInt = x.toInt := by rw [h2.2]
    rw [if_pos c] at hj
    have g : ∀ i, i < ns → (if i < gK st ns x then st i else if i = gK st ns x then x else st (if gT st ns x = true then i else i - 1)).toInt = (st i).toInt := fun i hi => by
      by_cases c1 : i < gK st ns x
      · rw [if_pos c1]
      · rw [if_neg c1]
        by_cases c2 : i = gK st ns x
        · rw [if_pos c2, c2, hx]
        · rw [if_neg c2, if_pos c]
    rw [g i (by omega), g j (by omega)]
    exact hs2 i j hij (by omega)
  · rw [if_neg c] at hj
    have hgt : ∀ j, gK st ns x ≤ j → j < ns → x.toInt < (st j).toInt := fun j h1 h2 => by
      have h3 := gK_nlt (st := st) (mm := ns) (x := x) (by omega)
      have h4 : ¬ st (gK st ns x) = x := fun z => c (decide_eq_true ⟨by omega, z⟩)
      have h5 : x.toInt < (st (gK st ns x)).toInt := by
        rw [Int32.lt_iff_toInt_lt] at h3
        have h6 : (st (gK st ns x)).toInt ≠ x.toInt := fun z => h4 (Int32.toInt_inj.mp z)
        omega
      by_cases e : j = gK st ns x
      · rw [e]; exact h5
      · have := hs2 (gK st ns x) j (by omega) h2
        omega
    by_cases c1 : i < gK st ns x
    · rw [if_pos c1]
      by_cases c2 : j < gK st ns x
      · rw [if_pos c2]; exact hs2 i j hij (by omega)
      · rw [if_neg c2]
        by_cases c3 : j = gK st ns x
        · rw [if_pos c3]; exact hl i c1
        · rw [if_neg c3, if_neg c]
          have := hl i c1
          have := hgt (j - 1) (by omega) (by omega)
          omega
    · rw [if_neg c1, if_neg (show ¬ j < gK st ns x by omega), if_neg (show ¬ j = gK st ns x by omega), if_neg c, if_neg c]
      by_cases c3 : i = gK st ns x
      · rw [if_pos c3]; exact hgt (j - 1) (by omega) (by omega)
      · rw [if_neg c3]; exact hs2 (i - 1) (j - 1) (by omega) (by omega)
theorem gnd_step {S st : Nat → Int32} {ns : Nat} {x : Int32} (h : GndI S ns st) (hns : ns < 12) : GndI (cPut S ns x S x) (cNs S ns x) (gS st ns x) := by
  have hl := fnd_le S x ns
  refine ⟨by rw [← gnd_ns h]; exact gS_srt h.1, fun v => ?_⟩
  have h2 := gS_set (x := x) h.1 v
  rw [gnd_ns h] at h2
  rw [h2]
  have h3 := h.2 v
  rw [← h3]
  unfold cPut cNs
  rw [if_pos (show fnd S x ns < 12 by omega)]
  by_cases c : fnd S x ns = ns
  · rw [if_pos c, c]
    constructor
    · rintro ⟨i, hi, e⟩
      by_cases ei : i = ns
      · subst ei; rw [pk_us] at e; exact Or.inl e.symm
      · rw [pk_un ei] at e; exact Or.inr ⟨i, by omega, e⟩
    · rintro (e | ⟨i, hi, e⟩)
      · exact ⟨ns, by omega, by rw [pk_us]; exact e.symm⟩
      · exact ⟨i, by omega, by rw [pk_un (by omega)]; exact e⟩
  · rw [if_neg c]
    have hy := fnd_yes S x ns (by omega)
    constructor
    · rintro ⟨i, hi, e⟩
      by_cases ei : i = fnd S x ns
      · rw [ei, pk_us] at e; exact Or.inl e.symm
      · rw [pk_un ei] at e; exact Or.inr ⟨i, hi, e⟩
    · rintro (e | ⟨i, hi, e⟩)
      · exact ⟨fnd S x ns, by omega, by rw [pk_us]; exact e.symm⟩
      · refine ⟨i, hi, ?_⟩
        by_cases ei : i = fnd S x ns
        · rw [ei, pk_us, ← e, ei]; exact hy.symm
        · rw [pk_un ei]; exact e
/-- the race's track in its bounds -/
def TrkI (KF U V : Nat → Int32) (ns : Nat) : Prop := KF 3 = nI ns ∧ 1 ≤ ns ∧ ns ≤ 12 ∧ (100 ≤ (KF 4).toInt ∧ (KF 4).toInt ≤ 2000) ∧ ∀ i, i < ns → (-5 ≤ (U i).toInt ∧ (U i).toInt ≤ 5) ∧ 0 ≤ (V i).toInt ∧ (V i).toInt ≤ 9
theorem trk_step {KF S U V : Nat → Int32} {ns : Nat} {x a b : Int32} (h : TrkI KF U V ns) (hns : ns < 12) (ha : -5 ≤ a.toInt ∧ a.toInt ≤ 5) (hb : 0 ≤ b.toInt ∧ b.toInt ≤ 9) : TrkI (cPutK S ns x KF) (cPut S ns x U a) (cPut S ns x V b) (cNs S ns x) := by
  have hl := fnd_le S x ns
  obtain ⟨h1, h2, h3, h4, h5⟩ := h
  have hput : ∀ (f : Nat → Int32) (v : Int32), cPut S ns x f v = upd f (fnd S x ns) v := fun f v => if_pos (by omega)
  refine ⟨?_, ?_, ?_, ?_, fun i hi => ?_⟩
  · unfold cPutK cNs
    by_cases c : fnd S x ns = ns
    · rw [if_pos ⟨by omega, c⟩, if_pos c]; rfl
    · rw [if_neg (fun z => c z.2), if_neg c]; exact h1
  · unfold cNs; split <;> omega
  · unfold cNs; split <;> omega
  · unfold cPutK; split
    · exact h4
    · exact h4
  · rw [hput, hput]
    by_cases e : i = fnd S x ns
    · rw [e, pk_us, pk_us]; exact ⟨ha, hb⟩
    · rw [pk_un e, pk_un e]
      refine h5 i ?_
      unfold cNs at hi
      split at hi <;> omega
theorem putK_3 {KF S : Nat → Int32} {ns : Nat} {x : Int32} (h : KF 3 = nI ns) (hns : ns < 12) : cPutK S ns x KF 3 = nI (cNs S ns x) := by
  have hl := fnd_le S x ns
  unfold cPutK cNs
  by_cases c : fnd S x ns = ns
  · rw [if_pos ⟨by omega, c⟩, if_pos c]; rfl
  · rw [if_neg (fun z => c z.2), if_neg c]; exact h
