/-! THE LAYER OF THIS CLAIM: the cells, what is always known, contracts of methods that read and of methods that write in place, their calls -/
abbrev oT (F : Nat → Int32) (p q r : Nat) : va_E := .inr (0, [.int (F 0), .int (F 1), .int (F 2), .int (F 3), .int (F 4), .int (F 5), .int (F 6), .int (F 7), .int (F 8), .int (F 9), .int (F 10), .int (F 11), .int (F 12), .int (F 13), .int (F 14), .int (F 15), .int (F 16), .ref p, .ref q, .ref r])
abbrev oK (F : Nat → Int32) (p q r : Nat) : va_E := .inr (1, [.ref p, .ref q, .ref r, .int (F 3), .int (F 4)])
abbrev oR (a b c d : Nat) (n t : Int32) : va_E := .inr (2, [.ref a, .ref b, .ref c, .ref d, .int n, .int t])
abbrev aI (cI : ClassId) (n : Nat) (f : Nat → Int32) : va_E := .inl (cI, n, .inl f)
abbrev aQ (cT : ClassId) (n : Nat) (f : Nat → Option Nat) : va_E := .inl (cT, n, .inr (.inr (.inr (.inr f))))
def bI (q : Bool) : Int32 := if q = true then 1 else 0
theorem bI_nar (q : Bool) : narrow .boolean (.int (bI q)) = .int (bI q) := by cases q <;> rfl
def imax (x y : Int32) : Int32 := if x < y then y else x
def imin (x y : Int32) : Int32 := if y < x then y else x
def sp_nest : List Cond := [.fieldLinkNest RX2 66 "SledgeRace$Track" "stretches" "I" "SledgeRace", .fieldLinkNest RX2 53 "SledgeRace$Track" "length" "I" "SledgeRace", .fieldLinkNest RX0 107 "SledgeRace$Track" "length" "I" "SledgeRace", .fieldLinkNest RX2 209 "SledgeRace$Team" "number" "I" "SledgeRace", .fieldLinkNest RX2 136 "SledgeRace$Team" "rollers" "I" "SledgeRace", .fieldLinkNest RX2 85 "SledgeRace$Team" "pullers" "I" "SledgeRace", .fieldLinkNest RX2 88 "SledgeRace$Team" "strength" "I" "SledgeRace", .fieldLinkNest RX2 91 "SledgeRace$Team" "runners" "I" "SledgeRace", .fieldLinkNest RX2 94 "SledgeRace$Team" "wholeRope" "I" "SledgeRace", .fieldLinkNest RX2 102 "SledgeRace$Team" "effort" "I" "SledgeRace", .fieldLinkNest RX2 105 "SledgeRace$Team" "gap" "I" "SledgeRace", .fieldLinkNest RX2 171 "SledgeRace$Team" "front" "I" "SledgeRace", .fieldLinkNest RX2 177 "SledgeRace$Team" "breath" "I" "SledgeRace", .fieldLinkNest RX2 97 "SledgeRace$Team" "rope" "I" "SledgeRace", .fieldLinkNest RX2 219 "SledgeRace$Team" "breaks" "I" "SledgeRace", .fieldLinkNest RX2 139 "SledgeRace$Team" "places" "[I" "SledgeRace"]
theorem sp_nest_tab : ∀ w ∈ sp_nest, w.onTables = true := by decide
def KK (D : va_G) (cI cT : ClassId) (U : State) : Prop := va_K D vwCl [(cI, .int), (cT, .object RX0)] U ∧ ∀ w ∈ sp_nest, va_Nw w U
theorem KK.warm {D : va_G} {cI cT : ClassId} {s U : State} (hW : s.WarmedH U.vm) (h : KK D cI cT s) : KK D cI cT U := by
  refine ⟨va_K.moved hW.alike h.1, fun w hw => ?_⟩
  have h2 := h.2 w hw
  simp only [sp_nest, List.mem_cons, List.not_mem_nil, or_false] at hw
  rcases hw with rfl | rfl | rfl | rfl | rfl | rfl | rfl | rfl | rfl | rfl | rfl | rfl | rfl | rfl | rfl | rfl <;> exact va_Nw.warmF hW h2
theorem KK.call {D : va_G} {cI cT : ClassId} {U : State} {g : JFrame} {mk : MethodId} {a : Array Value} (h : KK D cI cT U) : KK D cI cT (U.calling g mk a) :=
  ⟨va_K.moved (u := U) (U := U.calling g mk a) (Vm.Alike.refl U.vm) h.1, fun w hw => va_Nw.same (u := U) (U := U.calling g mk a) (sp_nest_tab w hw) rfl (h.2 w hw)⟩
/-- a nest mate's field word -/
theorem KK.n {D : va_G} {cI cT : ClassId} {s : State} {args : Array Value} (h : KK D cI cT s) {w : Cond} (hw : w ∈ sp_nest) : w.before args s = true := va_Nw.use (sp_nest_tab w hw) (h.2 w hw)
def RoP (D : va_G) (cI cT : ClassId) (av : List Value) (w : va_W) : Array Value → State → Prop := va_Pc av (fun U => va_P D vwCl w U.heap ∧ KK D cI cT U)
theorem RoP.blind {D : va_G} {cI cT : ClassId} {av : List Value} {w : va_W} : FrameBlind (RoP D cI cT av w) := fun _ _ _ _ h => ⟨h.1, h.2.1, h.2.2.call⟩
/-- a method that reads: its answer is v, the heap is the same -/
abbrev MetR (l : Launch) (D : va_G) (cI cT : ClassId) (y : MethodName) (ws : List Cond) (rm : Room) (av : List Value) (w : va_W) (v : Int32) : Prop := Met l y ws rm (RoP D cI cT av w) (QcRead v) 0 0 (fun _ => False)
abbrev MetRl (l : Launch) (D : va_G) (cI cT : ClassId) (y : MethodName) (ws : List Cond) (rm : Room) (av : List Value) (w : va_W) (v : Int64) : Prop := Met l y ws rm (RoP D cI cT av w) (vp_Sl (fun r => r = v)) 0 0 (fun _ => False)
def fr (fs : List Nat) : Nat → Prop := fun q => q ∈ fs
def MuP (D : va_G) (cI cT : ClassId) (av : List Value) (w r : va_W) : Array Value → State → Prop := va_Pc av (fun U => va_P D vwCl w U.heap ∧ va_P D vwCl r U.heap ∧ KK D cI cT U ∧ ((w ++ r).map Prod.fst).Nodup)
theorem MuP.blind {D : va_G} {cI cT : ClassId} {av : List Value} {w r : va_W} : FrameBlind (MuP D cI cT av w r) := fun _ _ _ _ h => ⟨h.1, h.2.1, h.2.2.1, h.2.2.2.1.call, h.2.2.2.2⟩
/-- a method that writes the cells w in place (reading r too): they are w' then; no other cell changes -/
abbrev MetV (l : Launch) (D : va_G) (cI cT : ClassId) (y : MethodName) (ws : List Cond) (rm : Room) (av : List Value) (w r w' : va_W) : Prop := Met l y ws rm (MuP D cI cT av w r) (va_Qv (S := Unit) (fun _ => True) (fun _ t => va_P D vwCl w' t.heap) (fr (w.map Prod.fst))) 0 0 (fr (w.map Prod.fst))
abbrev MetI (l : Launch) (D : va_G) (cI cT : ClassId) (y : MethodName) (ws : List Cond) (rm : Room) (av : List Value) (w r w' : va_W) (v : Int32) : Prop := Met l y ws rm (MuP D cI cT av w r) (va_Qi (S := Unit) (fun z _ => z = v) (fun _ t => va_P D vwCl w' t.heap) (fr (w.map Prod.fst))) 0 0 (fr (w.map Prod.fst))
abbrev MetL (l : Launch) (D : va_G) (cI cT : ClassId) (y : MethodName) (ws : List Cond) (rm : Room) (av : List Value) (w r w' : va_W) (v : Int64) : Prop := Met l y ws rm (MuP D cI cT av w r) (va_Ql (S := Unit) (fun z _ => z = v) (fun _ t => va_P D vwCl w' t.heap) (fr (w.map Prod.fst))) 0 0 (fr (w.map Prod.fst))
theorem sp_nsub {as bs : List Nat} (h : as.Nodup) (is : List Nat) (hn : va_nd is = true) (hs : is.map (fun i => as[i]?) = bs.map some) : bs.Nodup := by
  have key : ∀ (k a : Nat), bs[k]? = some a → ∃ i, is[k]? = some i ∧ as[i]? = some a := by
    intro k a hk
    have h1 : (is.map (fun i => as[i]?))[k]? = some (some a) := by rw [hs, List.getElem?_map, hk]; rfl
    rw [List.getElem?_map] at h1
    cases hi : is[k]? with
    | none => rw [hi] at h1; cases h1
    | some i => rw [hi] at h1; exact ⟨i, rfl, Option.some.inj h1⟩
  refine List.pairwise_iff_getElem.mpr fun i j hi hj hij hbad => ?_
  obtain ⟨x, h1, h2⟩ := key i _ (List.getElem?_eq_getElem hi)
  obtain ⟨y, h3, h4⟩ := key j _ (List.getElem?_eq_getElem hj)
  rw [hbad] at h2
  have hxy : x = y := (List.getElem?_inj (List.getElem?_eq_some_iff.mp h2).1 h).mp (h2.trans h4.symm)
  subst hxy
  exact absurd (va_nd_inj is hn i j x h1 h3) (Nat.ne_of_lt hij)
theorem sp_D {A : Nat → Prop} {w : va_W} (h : (w.map Prod.fst).Nodup) (hA : ∀ q ∈ w.map Prod.fst, A q) : va_D A w := by
  refine ⟨fun i j x y hi hj hxy => ?_, fun k q hk => hA _ (List.mem_map_of_mem (List.mem_of_getElem? hk))⟩
  have h1 : (w.map Prod.fst)[i]? = some x.1 := by rw [List.getElem?_map, hi]; rfl
  have h2 : (w.map Prod.fst)[j]? = some y.1 := by rw [List.getElem?_map, hj]; rfl
  exact (List.getElem?_inj (List.getElem?_eq_some_iff.mp h1).1 h).mp (by rw [h1, h2, hxy])
theorem sp_Dsame {A : Nat → Prop} {w w' : va_W} (h : w'.map Prod.fst = w.map Prod.fst) (hD : va_D A w) : va_D A w' := by
  have key : ∀ (k : Nat) (q : Nat × va_E), w'[k]? = some q → ∃ q0, w[k]? = some q0 ∧ q0.1 = q.1 := by
    intro k q hk
    have h1 : (w'.map Prod.fst)[k]? = some q.1 := by rw [List.getElem?_map, hk]; rfl
    rw [h, List.getElem?_map] at h1
    cases hi : w[k]? with
    | none => rw [hi] at h1; cases h1
    | some q0 => rw [hi] at h1; exact ⟨q0, rfl, Option.some.inj h1⟩
  refine ⟨fun i j x y hi hj hxy => ?_, fun k q hk => ?_⟩
  · obtain ⟨x0, h1, h2⟩ := key i x hi
    obtain ⟨y0, h3, h4⟩ := key j y hj
    exact hD.1 i j x0 y0 h1 h3 (h2.trans (hxy.trans h4.symm))
  · obtain ⟨q0, h1, h2⟩ := key k q hk
    rw [← h2]
    exact hD.2 k q0 h1
def repl (W : va_W) : List Nat → va_W → va_W
  | i :: is, q :: qs => repl (W.set i q) is qs
  | _, _ => W
theorem repl_get : ∀ (is : List Nat) (qs : va_W) (W : va_W) (k : Nat) (q : Nat × va_E), is.length = qs.length → (repl W is qs)[k]? = some q → (∃ j : Nat, qs[j]? = some q) ∨ (W[k]? = some q ∧ k ∉ is)
  | [], [], W, k, q, _, h => Or.inr ⟨h, List.not_mem_nil⟩
  | i :: is, z :: qs, W, k, q, hl, h => by
    rcases repl_get is qs (W.set i z) k q (Nat.succ.inj hl) h with ⟨j, hj⟩ | ⟨h1, h2⟩
    · exact Or.inl ⟨j + 1, hj⟩
    · by_cases hk : k = i
      · subst hk
        have hlt : k < W.length := by
          have := (List.getElem?_eq_some_iff.mp h1).1
          rwa [List.length_set] at this
        rw [List.getElem?_set_self hlt] at h1
        exact Or.inl ⟨0, h1⟩
      · rw [List.getElem?_set_ne (Ne.symm hk)] at h1
        exact Or.inr ⟨h1, fun hm => by rcases List.mem_cons.mp hm with e | e; exact hk e; exact h2 e⟩
  | [], _ :: _, _, _, _, hl, _ => by cases hl
  | _ :: _, [], _, _, _, hl, _ => by cases hl
/-- behind a call that wrote in place -/
theorem sp_after {A : Nat → Prop} {D : va_G} {cl : List vw_C} {W wc w1 W' : va_W} {H H1 : Heap} (hP : va_P D cl W H) (hD : va_D A W) (isC : List Nat) (hC : isC.map (fun i => W[i]?) = wc.map some) (hm : w1.map Prod.fst = wc.map Prod.fst) (hW : repl W isC w1 = W')
    (hk : ∀ q : Nat, q < H.size → ¬ fr (wc.map Prod.fst) q → H1[q]? = H[q]?) (hP1 : va_P D cl w1 H1) : va_P D cl W' H1 := by
  subst hW
  have hlen : isC.length = w1.length := by
    have h1 := congrArg List.length hC
    have h2 := congrArg List.length hm
    simp only [List.length_map] at h1 h2
    omega
  intro k q hq
  rcases repl_get isC w1 W k q hlen hq with ⟨j, hj⟩ | ⟨h1, h2⟩
  · exact hP1 j q hj
  · refine (hP k q h1).kept (hk q.1 ((hP k q h1).lt) (fun hf => ?_))
    obtain ⟨x, hx, hxq⟩ := List.mem_map.mp hf
    obtain ⟨j, hj⟩ := List.getElem?_of_mem hx
    have h3 : (isC.map (fun i => W[i]?))[j]? = some (some x) := by rw [hC, List.getElem?_map, hj]; rfl
    rw [List.getElem?_map] at h3
    cases hi : isC[j]? with
    | none => rw [hi] at h3; cases h3
    | some i =>
      rw [hi] at h3
      have h4 : W[i]? = some x := Option.some.inj h3
      have := hD.1 k i q x h1 h4 hxq.symm
      subst this
      exact h2 (List.mem_of_getElem? hi)
theorem sp_in {A : Nat → Prop} {W wc : va_W} (hD : va_D A W) (isC : List Nat) (hC : isC.map (fun i => W[i]?) = wc.map some) : ∀ q, fr (wc.map Prod.fst) q → A q := by
  intro q hf
  obtain ⟨x, hx, rfl⟩ := List.mem_map.mp hf
  obtain ⟨j, hj⟩ := List.getElem?_of_mem hx
  have h3 : (isC.map (fun i => W[i]?))[j]? = some (some x) := by rw [hC, List.getElem?_map, hj]; rfl
  rw [List.getElem?_map] at h3
  cases hi : isC[j]? with
  | none => rw [hi] at h3; cases h3
  | some i =>
    rw [hi] at h3
    exact hD.2 i x (Option.some.inj h3)
theorem sp_pick {D : va_G} {cl : List vw_C} {W wc : va_W} {H : Heap} (hP : va_P D cl W H) (isC : List Nat) (hC : isC.map (fun i => W[i]?) = wc.map some) : va_P D cl wc H := by
  intro k q hq
  have h1 : (isC.map (fun i => W[i]?))[k]? = some (some q) := by rw [hC, List.getElem?_map, hq]; rfl
  rw [List.getElem?_map] at h1
  cases hi : isC[k]? with
  | none => rw [hi] at h1; cases h1
  | some i => rw [hi] at h1; exact hP i q (Option.some.inj h1)
/-- cells that are only read stay -/
theorem sp_ro {A : Nat → Prop} {D : va_G} {cl : List vw_C} {r : va_W} {H0 H : Heap} {locs : List Loc} (hP : va_P D cl r H0) (hA : ∀ q ∈ r.map Prod.fst, ¬ A q) (hS : va_S A H0 H locs) : va_P D cl r H :=
  hP.kept fun k q hk => hS.2.1 q.1 ((hP k q hk).lt) (hA _ (List.mem_map_of_mem (List.mem_of_getElem? hk)))
theorem sp_apart {as bs : List Nat} (h : (as ++ bs).Nodup) : ∀ q ∈ bs, ¬ fr as q := fun q hb ha => (List.nodup_append.mp h).2.2 q ha q hb rfl
/-- an array of n ints tells its first n values alone -/
theorem aI_congr {D : va_G} {cl : List vw_C} {a : Nat} {cI : ClassId} {n : Nat} {f g : Nat → Int32} (h : ∀ j, j < n → f j = g j) : va_at D cl (a, aI cI n f) = va_at D cl (a, aI cI n g) := by
  funext H
  show (H[a]? = some (arrV cI n (fun j => Value.int (f j)))) = (H[a]? = some (arrV cI n (fun j => Value.int (g j))))
  have e : (Array.ofFn (n := n) fun j : Fin n => Value.int (f j.val)) = (Array.ofFn (n := n) fun j : Fin n => Value.int (g j.val)) := by
    congr 1
    funext j
    rw [h j.val j.isLt]
  unfold arrV
  rw [e]
theorem sp_congr {D : va_G} {cl : List vw_C} {W : va_W} {H : Heap} (hP : va_P D cl W H) (k : Nat) {a : Nat} {cI : ClassId} {n : Nat} {f g : Nat → Int32} (hk : W[k]? = some (a, aI cI n f)) (h : ∀ j, j < n → f j = g j) {W' : va_W} (hW : W.set k (a, aI cI n g) = W') : va_P D cl W' H := by
  subst hW
  intro i q hq
  by_cases hi : i = k
  · subst hi
    rw [List.getElem?_set_self ((List.getElem?_eq_some_iff.mp hk).1)] at hq
    cases hq
    rw [← aI_congr h]
    exact hP i _ hk
  · rw [List.getElem?_set_ne (Ne.symm hi)] at hq
    exact hP i q hq
theorem sp_pos {k : Nat} (h : 0 < nI k) (hk : k < 2147483648) : 0 < k := by
  rw [← nI_0] at h
  exact (nI_ltI (by decide) hk).mp h
theorem sp_zero {k : Nat} (h : ¬ 0 < nI k) (hk : k < 2147483648) : k = 0 := by
  rcases Nat.eq_zero_or_pos k with q | q
  · exact q
  · exact absurd (by rw [← nI_0]; exact (nI_ltI (by decide) hk).mpr q) h
theorem sp_dec0 {x : Int32} {k : Nat} (ex : x = nI k - 1) (h : x < 0) (hk : k < 2147483648) : k = 0 := by
  cases k with
  | zero => rfl
  | succ k => rw [ex, nI_pred] at h; exact absurd h (nI_pos (by omega))
theorem sp_dec1 {x : Int32} {k : Nat} (ex : x = nI k - 1) (h : ¬ x < 0) : ∃ j : Nat, k = j + 1 ∧ x = nI j := by
  cases k with
  | zero => exact absurd (by rw [ex]; decide) h
  | succ k => exact ⟨k, rfl, by rw [ex, nI_pred]⟩
theorem sp_out4 {x : Int32} (z0 : ¬ x = 0) (z1 : ¬ x = 1) (z2 : ¬ x = 2) (z3 : ¬ x = 3) (z4 : ¬ x = 4) : x.toInt < 0 ∨ 4 < x.toInt := by
  have e0 : x.toInt ≠ 0 := fun h => z0 (Int32.toInt_inj.mp (h.trans (by decide)))
  have e1 : x.toInt ≠ 1 := fun h => z1 (Int32.toInt_inj.mp (h.trans (by decide)))
  have e2 : x.toInt ≠ 2 := fun h => z2 (Int32.toInt_inj.mp (h.trans (by decide)))
  have e3 : x.toInt ≠ 3 := fun h => z3 (Int32.toInt_inj.mp (h.trans (by decide)))
  have e4 : x.toInt ≠ 4 := fun h => z4 (Int32.toInt_inj.mp (h.trans (by decide)))
  omega
theorem sp_out10 {x : Int32} (z0 : ¬ x = 0) (z1 : ¬ x = 1) (z2 : ¬ x = 2) (z3 : ¬ x = 3) (z4 : ¬ x = 4) (z5 : ¬ x = 5) (z6 : ¬ x = 6) (z7 : ¬ x = 7) (z8 : ¬ x = 8) (z9 : ¬ x = 9) (z10 : ¬ x = 10) : x.toInt < 0 ∨ 10 < x.toInt := by
  have e0 : x.toInt ≠ 0 := fun h => z0 (Int32.toInt_inj.mp (h.trans (by decide)))
  have e1 : x.toInt ≠ 1 := fun h => z1 (Int32.toInt_inj.mp (h.trans (by decide)))
  have e2 : x.toInt ≠ 2 := fun h => z2 (Int32.toInt_inj.mp (h.trans (by decide)))
  have e3 : x.toInt ≠ 3 := fun h => z3 (Int32.toInt_inj.mp (h.trans (by decide)))
  have e4 : x.toInt ≠ 4 := fun h => z4 (Int32.toInt_inj.mp (h.trans (by decide)))
  have e5 : x.toInt ≠ 5 := fun h => z5 (Int32.toInt_inj.mp (h.trans (by decide)))
  have e6 : x.toInt ≠ 6 := fun h => z6 (Int32.toInt_inj.mp (h.trans (by decide)))
  have e7 : x.toInt ≠ 7 := fun h => z7 (Int32.toInt_inj.mp (h.trans (by decide)))
  have e8 : x.toInt ≠ 8 := fun h => z8 (Int32.toInt_inj.mp (h.trans (by decide)))
  have e9 : x.toInt ≠ 9 := fun h => z9 (Int32.toInt_inj.mp (h.trans (by decide)))
  have e10 : x.toInt ≠ 10 := fun h => z10 (Int32.toInt_inj.mp (h.trans (by decide)))
  omega
theorem sp_out11 {x : Int32} (z0 : ¬ x = 0) (z1 : ¬ x = 1) (z2 : ¬ x = 2) (z3 : ¬ x = 3) (z4 : ¬ x = 4) (z5 : ¬ x = 5) (z6 : ¬ x = 6) (z7 : ¬ x = 7) (z8 : ¬ x = 8) (z9 : ¬ x = 9) (z10 : ¬ x = 10) (z11 : ¬ x = 11) : x.toInt < 0 ∨ 11 < x.toInt := by
  have e0 : x.toInt ≠ 0 := fun h => z0 (Int32.toInt_inj.mp (h.trans (by decide)))
  have e1 : x.toInt ≠ 1 := fun h => z1 (Int32.toInt_inj.mp (h.trans (by decide)))
  have e2 : x.toInt ≠ 2 := fun h => z2 (Int32.toInt_inj.mp (h.trans (by decide)))
  have e3 : x.toInt ≠ 3 := fun h => z3 (Int32.toInt_inj.mp (h.trans (by decide)))
  have e4 : x.toInt ≠ 4 := fun h => z4 (Int32.toInt_inj.mp (h.trans (by decide)))
  have e5 : x.toInt ≠ 5 := fun h => z5 (Int32.toInt_inj.mp (h.trans (by decide)))
  have e6 : x.toInt ≠ 6 := fun h => z6 (Int32.toInt_inj.mp (h.trans (by decide)))
  have e7 : x.toInt ≠ 7 := fun h => z7 (Int32.toInt_inj.mp (h.trans (by decide)))
  have e8 : x.toInt ≠ 8 := fun h => z8 (Int32.toInt_inj.mp (h.trans (by decide)))
  have e9 : x.toInt ≠ 9 := fun h => z9 (Int32.toInt_inj.mp (h.trans (by decide)))
  have e10 : x.toInt ≠ 10 := fun h => z10 (Int32.toInt_inj.mp (h.trans (by decide)))
  have e11 : x.toInt ≠ 11 := fun h => z11 (Int32.toInt_inj.mp (h.trans (by decide)))
  omega
theorem sp_out16 {x : Int32} (z0 : ¬ x = 0) (z1 : ¬ x = 1) (z2 : ¬ x = 2) (z3 : ¬ x = 3) (z4 : ¬ x = 4) (z5 : ¬ x = 5) (z6 : ¬ x = 6) (z7 : ¬ x = 7) (z8 : ¬ x = 8) (z9 : ¬ x = 9) (z10 : ¬ x = 10) (z11 : ¬ x = 11) (z12 : ¬ x = 12) (z13 : ¬ x = 13) (z14 : ¬ x = 14) (z15 : ¬ x = 15) (z16 : ¬ x = 16) : x.toInt < 0 ∨ 16 < x.toInt := by
  have e0 : x.toInt ≠ 0 := fun h => z0 (Int32.toInt_inj.mp (h.trans (by decide)))
  have e1 : x.toInt ≠ 1 := fun h => z1 (Int32.toInt_inj.mp (h.trans (by decide)))
  have e2 : x.toInt ≠ 2 := fun h => z2 (Int32.toInt_inj.mp (h.trans (by decide)))
  have e3 : x.toInt ≠ 3 := fun h => z3 (Int32.toInt_inj.mp (h.trans (by decide)))
  have e4 : x.toInt ≠ 4 := fun h => z4 (Int32.toInt_inj.mp (h.trans (by decide)))
  have e5 : x.toInt ≠ 5 := fun h => z5 (Int32.toInt_inj.mp (h.trans (by decide)))
  have e6 : x.toInt ≠ 6 := fun h => z6 (Int32.toInt_inj.mp (h.trans (by decide)))
  have e7 : x.toInt ≠ 7 := fun h => z7 (Int32.toInt_inj.mp (h.trans (by decide)))
  have e8 : x.toInt ≠ 8 := fun h => z8 (Int32.toInt_inj.mp (h.trans (by decide)))
  have e9 : x.toInt ≠ 9 := fun h => z9 (Int32.toInt_inj.mp (h.trans (by decide)))
  have e10 : x.toInt ≠ 10 := fun h => z10 (Int32.toInt_inj.mp (h.trans (by decide)))
  have e11 : x.toInt ≠ 11 := fun h => z11 (Int32.toInt_inj.mp (h.trans (by decide)))
  have e12 : x.toInt ≠ 12 := fun h => z12 (Int32.toInt_inj.mp (h.trans (by decide)))
  have e13 : x.toInt ≠ 13 := fun h => z13 (Int32.toInt_inj.mp (h.trans (by decide)))
  have e14 : x.toInt ≠ 14 := fun h => z14 (Int32.toInt_inj.mp (h.trans (by decide)))
  have e15 : x.toInt ≠ 15 := fun h => z15 (Int32.toInt_inj.mp (h.trans (by decide)))
  have e16 : x.toInt ≠ 16 := fun h => z16 (Int32.toInt_inj.mp (h.trans (by decide)))
  omega
section SP
variable {p : Program} {l : Launch} {e : Env} {R : Room} {s : State} {m : MethodId} {args : Array Value} {below : List Frame} {meth : Method} {c : Code} {H : Heap} {locs : List Loc} {cells slots : Nat} {Q : State → Prop}
variable {cc : ByteArray} {pc : Nat} {ls : Array Slot} {rest st0 : List Value} {D : va_G} {cI cT : ClassId} {A : Nat → Prop}
variable {y : MethodName} {bytes : ByteArray} {maxL nL n index : Nat} {ret : Option FieldType} {ws Ts : List Cond} {rm : Room} {own C : String} {b : Addr} {As : List Value} {wc rc w1 W0 W1 : va_W}
theorem sp_rV {v : Int32} (S : CallFix p m c cc nL s args Ts own) (hM : MetR l D cI cT y ws rm (.ref b :: As) wc v) (cw : CallW R s args own C index y bytes maxL ret ws rm 0 0 n) (hK : KK D cI cT s) (hP : va_P D vwCl wc H)
    {ci : Nat} {q : vw_C} {fs : List Value} (hc : vwCl[ci]? = some q) (he : wc[0]? = some (b, .inr (ci, fs))) (hC : q.1 = C) (hn : As.length = n) (hsize : ls.size = nL) (hst : st0 = As.reverse ++ .ref b :: rest) (hW : (rest.map fun v => v.category).sum ≤ 8)
    (hdg : decode cc pc = .ok (.invokevirtual index, 3)) (hf : cells ≤ R.cells ∧ slots ≤ R.slots)
    (kk : W p l e R s m args below meth c H locs cells slots Q (F0 m (pc + 3) ls (.int v :: rest))) : W p l e R s m args below meth c H locs cells slots Q (F0 m pc ls st0) := by
  subst hst hC
  exact W.callR (W.runV (rest := rest) S hM cw ⟨RoP.blind, va_recv hK.1 hP hc he, fun U hU hW => ⟨rfl, by rw [hU]; exact hP, hK.warm hW⟩⟩ rfl hn hsize rfl (lv_room hW) hdg hf) kk
theorem sp_rVl {v : Int64} (S : CallFix p m c cc nL s args Ts own) (hM : MetRl l D cI cT y ws rm (.ref b :: As) wc v) (cw : CallW R s args own C index y bytes maxL ret ws rm 0 0 n) (hK : KK D cI cT s) (hP : va_P D vwCl wc H)
    {ci : Nat} {q : vw_C} {fs : List Value} (hc : vwCl[ci]? = some q) (he : wc[0]? = some (b, .inr (ci, fs))) (hC : q.1 = C) (hn : As.length = n) (hsize : ls.size = nL) (hst : st0 = As.reverse ++ .ref b :: rest) (hW : (rest.map fun v => v.category).sum ≤ 8)
    (hdg : decode cc pc = .ok (.invokevirtual index, 3)) (hf : cells ≤ R.cells ∧ slots ≤ R.slots)
    (kk : W p l e R s m args below meth c H locs cells slots Q (F0 m (pc + 3) ls (.long v :: rest))) : W p l e R s m args below meth c H locs cells slots Q (F0 m pc ls st0) := by
  subst hst hC
  exact vp_callSl (W.runV (rest := rest) S hM cw ⟨RoP.blind, va_recv hK.1 hP hc he, fun U hU hW => ⟨rfl, by rw [hU]; exact hP, hK.warm hW⟩⟩ rfl hn hsize rfl (lv_room hW) hdg hf) (fun r hr => by subst hr; exact kk)
theorem sp_rS {v : Int32} (S : CallFix p m c cc nL s args Ts own) (hM : MetR l D cI cT y ws rm As wc v) (cw : CallB R s args own index y bytes maxL ret ws rm 0 0 n ∧ (Cond.static y).before args s = true) (hK : KK D cI cT s) (hP : va_P D vwCl wc H)
    (hn : As.length = n) (hsize : ls.size = nL) (hst : st0 = As.reverse ++ rest) (hW : (rest.map fun v => v.category).sum ≤ 8)
    (hdg : decode cc pc = .ok (.invokestatic index, 3)) (hf : cells ≤ R.cells ∧ slots ≤ R.slots)
    (kk : W p l e R s m args below meth c H locs cells slots Q (F0 m (pc + 3) ls (.int v :: rest))) : W p l e R s m args below meth c H locs cells slots Q (F0 m pc ls st0) := by
  subst hst
  exact W.callR (W.runS (rest := rest) S hM cw ⟨RoP.blind, fun U hU hW => ⟨rfl, by rw [hU]; exact hP, hK.warm hW⟩⟩ rfl hn hsize rfl (lv_room hW) hdg hf) kk
theorem sp_vV (S : CallFix p m c cc nL s args Ts own) (hM : MetV l D cI cT y ws rm (.ref b :: As) wc rc w1) (cw : CallW R s args own C index y bytes maxL ret ws rm 0 0 n) (hK : KK D cI cT s)
    (hP : va_P D vwCl W0 H) (hD : va_D A W0) (hS : va_S A s.heap H locs) (isC : List Nat) (hC : isC.map (fun i => W0[i]?) = wc.map some) (hPr : va_P D vwCl rc H) (hN : ((wc ++ rc).map Prod.fst).Nodup) (hm : w1.map Prod.fst = wc.map Prod.fst) (hW1 : repl W0 isC w1 = W1) (hm1 : W1.map Prod.fst = W0.map Prod.fst)
    {ci : Nat} {q : vw_C} {fs : List Value} (hc : vwCl[ci]? = some q) (he : wc[0]? = some (b, .inr (ci, fs))) (hcC : q.1 = C) (hn : As.length = n) (hsize : ls.size = nL) (hst : st0 = As.reverse ++ .ref b :: rest) (hW : (rest.map fun v => v.category).sum ≤ 8)
    (hdg : decode cc pc = .ok (.invokevirtual index, 3)) (hf : cells ≤ R.cells ∧ slots ≤ R.slots)
    (kk : ∀ (H1 : Heap) (locs1 : List Loc), va_P D vwCl W1 H1 → va_D A W1 → va_S A s.heap H1 locs1 → W p l e R s m args below meth c H1 locs1 cells slots Q (F0 m (pc + 3) ls rest)) : W p l e R s m args below meth c H locs cells slots Q (F0 m pc ls st0) := by
  subst hst hcC
  have hPc := sp_pick hP isC hC
  refine va_callv (va_runV (rest := rest) S hM cw ⟨MuP.blind, va_recv hK.1 hPc hc he, fun U hU hW => ⟨rfl, by rw [hU]; exact hPc, by rw [hU]; exact hPr, hK.warm hW, hN⟩⟩ rfl hn hsize rfl (lv_room hW) hdg hf) hS (fun q _ h => sp_in hD isC hC q h) (sp_in hD isC hC) (fun u t H1 locs1 ht hvm hw hB hz hk hS1 => ?_)
  rw [ht] at hB
  exact kk H1 locs1 (sp_after hP hD isC hC hm hW1 hk hB) (sp_Dsame hm1 hD) hS1
theorem sp_vI {v : Int32} (S : CallFix p m c cc nL s args Ts own) (hM : MetI l D cI cT y ws rm (.ref b :: As) wc rc w1 v) (cw : CallW R s args own C index y bytes maxL ret ws rm 0 0 n) (hK : KK D cI cT s)
    (hP : va_P D vwCl W0 H) (hD : va_D A W0) (hS : va_S A s.heap H locs) (isC : List Nat) (hC : isC.map (fun i => W0[i]?) = wc.map some) (hPr : va_P D vwCl rc H) (hN : ((wc ++ rc).map Prod.fst).Nodup) (hm : w1.map Prod.fst = wc.map Prod.fst) (hW1 : repl W0 isC w1 = W1) (hm1 : W1.map Prod.fst = W0.map Prod.fst)
    {ci : Nat} {q : vw_C} {fs : List Value} (hc : vwCl[ci]? = some q) (he : wc[0]? = some (b, .inr (ci, fs))) (hcC : q.1 = C) (hn : As.length = n) (hsize : ls.size = nL) (hst : st0 = As.reverse ++ .ref b :: rest) (hW : (rest.map fun v => v.category).sum ≤ 8)
    (hdg : decode cc pc = .ok (.invokevirtual index, 3)) (hf : cells ≤ R.cells ∧ slots ≤ R.slots)
    (kk : ∀ (H1 : Heap) (locs1 : List Loc), va_P D vwCl W1 H1 → va_D A W1 → va_S A s.heap H1 locs1 → W p l e R s m args below meth c H1 locs1 cells slots Q (F0 m (pc + 3) ls (.int v :: rest))) : W p l e R s m args below meth c H locs cells slots Q (F0 m pc ls st0) := by
  subst hst hcC
  have hPc := sp_pick hP isC hC
  refine va_calli (va_runV (rest := rest) S hM cw ⟨MuP.blind, va_recv hK.1 hPc hc he, fun U hU hW => ⟨rfl, by rw [hU]; exact hPc, by rw [hU]; exact hPr, hK.warm hW, hN⟩⟩ rfl hn hsize rfl (lv_room hW) hdg hf) hS (fun q _ h => sp_in hD isC hC q h) (sp_in hD isC hC) (fun z u t H1 locs1 ht hvm hw hB hz hk hS1 => ?_)
  rw [ht] at hB
  subst hw
  exact kk H1 locs1 (sp_after hP hD isC hC hm hW1 hk hB) (sp_Dsame hm1 hD) hS1
theorem sp_vS (S : CallFix p m c cc nL s args Ts own) (hM : MetV l D cI cT y ws rm As wc rc w1) (cw : CallB R s args own index y bytes maxL ret ws rm 0 0 n ∧ (Cond.static y).before args s = true) (hK : KK D cI cT s)
    (hP : va_P D vwCl W0 H) (hD : va_D A W0) (hS : va_S A s.heap H locs) (isC : List Nat) (hC : isC.map (fun i => W0[i]?) = wc.map some) (hPr : va_P D vwCl rc H) (hN : ((wc ++ rc).map Prod.fst).Nodup) (hm : w1.map Prod.fst = wc.map Prod.fst) (hW1 : repl W0 isC w1 = W1) (hm1 : W1.map Prod.fst = W0.map Prod.fst)
    (hn : As.length = n) (hsize : ls.size = nL) (hst : st0 = As.reverse ++ rest) (hW : (rest.map fun v => v.category).sum ≤ 8)
    (hdg : decode cc pc = .ok (.invokestatic index, 3)) (hf : cells ≤ R.cells ∧ slots ≤ R.slots)
    (kk : ∀ (H1 : Heap) (locs1 : List Loc), va_P D vwCl W1 H1 → va_D A W1 → va_S A s.heap H1 locs1 → W p l e R s m args below meth c H1 locs1 cells slots Q (F0 m (pc + 3) ls rest)) : W p l e R s m args below meth c H locs cells slots Q (F0 m pc ls st0) := by
  subst hst
  have hPc := sp_pick hP isC hC
  refine va_callv (va_runS (rest := rest) S hM cw ⟨MuP.blind, fun U hU hW => ⟨rfl, by rw [hU]; exact hPc, by rw [hU]; exact hPr, hK.warm hW, hN⟩⟩ rfl hn hsize rfl (lv_room hW) hdg hf) hS (fun q _ h => sp_in hD isC hC q h) (sp_in hD isC hC) (fun u t H1 locs1 ht hvm hw hB hz hk hS1 => ?_)
  rw [ht] at hB
  exact kk H1 locs1 (sp_after hP hD isC hC hm hW1 hk hB) (sp_Dsame hm1 hD) hS1
/-- comparisons of small naturals -/
theorem sp_lt {i j : Nat} (hi : i < 2147483648) (hj : j < 2147483648) (hx : p.tables.exec = Jvm.exec) (hb : c.code = cc) {off : Int} {tgt : Nat} (hdg : decode cc pc = .ok (.if_icmp .lt off, 3)) (ht : (pc : Int) + off = (tgt : Int))
    (kt : i < j → W p l e R s m args below meth c H locs cells slots Q (F0 m tgt ls rest)) (kf : j ≤ i → W p l e R s m args below meth c H locs cells slots Q (F0 m (pc + 3) ls rest)) : W p l e R s m args below meth c H locs cells slots Q (F0 m pc ls (.int (nI j) :: .int (nI i) :: rest)) :=
  lv_icmp_lt hx hb hdg ht (fun q => kt ((nI_ltI hi hj).mp q)) (fun q => kf (Nat.not_lt.mp fun z => q ((nI_ltI hi hj).mpr z)))
theorem sp_ge {i j : Nat} (hi : i < 2147483648) (hj : j < 2147483648) (hx : p.tables.exec = Jvm.exec) (hb : c.code = cc) {off : Int} {tgt : Nat} (hdg : decode cc pc = .ok (.if_icmp .ge off, 3)) (ht : (pc : Int) + off = (tgt : Int))
    (kt : j ≤ i → W p l e R s m args below meth c H locs cells slots Q (F0 m tgt ls rest)) (kf : i < j → W p l e R s m args below meth c H locs cells slots Q (F0 m (pc + 3) ls rest)) : W p l e R s m args below meth c H locs cells slots Q (F0 m pc ls (.int (nI j) :: .int (nI i) :: rest)) :=
  lv_icmp_ge hx hb hdg ht (fun q => kt ((nI_leI hj hi).mp q)) (fun q => kf (Nat.not_le.mp fun z => q ((nI_leI hj hi).mpr z)))
theorem sp_gt {i j : Nat} (hi : i < 2147483648) (hj : j < 2147483648) (hx : p.tables.exec = Jvm.exec) (hb : c.code = cc) {off : Int} {tgt : Nat} (hdg : decode cc pc = .ok (.if_icmp .gt off, 3)) (ht : (pc : Int) + off = (tgt : Int))
    (kt : j < i → W p l e R s m args below meth c H locs cells slots Q (F0 m tgt ls rest)) (kf : i ≤ j → W p l e R s m args below meth c H locs cells slots Q (F0 m (pc + 3) ls rest)) : W p l e R s m args below meth c H locs cells slots Q (F0 m pc ls (.int (nI j) :: .int (nI i) :: rest)) :=
  lv_icmp_gt hx hb hdg ht (fun q => kt ((nI_ltI hj hi).mp q)) (fun q => kf (Nat.not_lt.mp fun z => q ((nI_ltI hj hi).mpr z)))
theorem sp_le {i j : Nat} (hi : i < 2147483648) (hj : j < 2147483648) (hx : p.tables.exec = Jvm.exec) (hb : c.code = cc) {off : Int} {tgt : Nat} (hdg : decode cc pc = .ok (.if_icmp .le off, 3)) (ht : (pc : Int) + off = (tgt : Int))
    (kt : i ≤ j → W p l e R s m args below meth c H locs cells slots Q (F0 m tgt ls rest)) (kf : j < i → W p l e R s m args below meth c H locs cells slots Q (F0 m (pc + 3) ls rest)) : W p l e R s m args below meth c H locs cells slots Q (F0 m pc ls (.int (nI j) :: .int (nI i) :: rest)) :=
  lv_icmp_le hx hb hdg ht (fun q => kt ((nI_leI hi hj).mp q)) (fun q => kf (Nat.not_le.mp fun z => q ((nI_leI hi hj).mpr z)))
theorem sp_eq {i j : Nat} (hi : i < 2147483648) (hj : j < 2147483648) (hx : p.tables.exec = Jvm.exec) (hb : c.code = cc) {off : Int} {tgt : Nat} (hdg : decode cc pc = .ok (.if_icmp .eq off, 3)) (ht : (pc : Int) + off = (tgt : Int))
    (kt : i = j → W p l e R s m args below meth c H locs cells slots Q (F0 m tgt ls rest)) (kf : i ≠ j → W p l e R s m args below meth c H locs cells slots Q (F0 m (pc + 3) ls rest)) : W p l e R s m args below meth c H locs cells slots Q (F0 m pc ls (.int (nI j) :: .int (nI i) :: rest)) :=
  lv_icmp_eq hx hb hdg ht (fun q => kt ((nI_eq hi hj).mp q)) (fun q => kf (fun z => q ((nI_eq hi hj).mpr z)))
theorem sp_ne {i j : Nat} (hi : i < 2147483648) (hj : j < 2147483648) (hx : p.tables.exec = Jvm.exec) (hb : c.code = cc) {off : Int} {tgt : Nat} (hdg : decode cc pc = .ok (.if_icmp .ne off, 3)) (ht : (pc : Int) + off = (tgt : Int))
    (kt : i ≠ j → W p l e R s m args below meth c H locs cells slots Q (F0 m tgt ls rest)) (kf : i = j → W p l e R s m args below meth c H locs cells slots Q (F0 m (pc + 3) ls rest)) : W p l e R s m args below meth c H locs cells slots Q (F0 m pc ls (.int (nI j) :: .int (nI i) :: rest)) :=
  lv_icmp_ne hx hb hdg ht (fun q => kt (fun z => q ((nI_eq hi hj).mpr z))) (fun q => kf ((nI_eq hi hj).mp q))
theorem sp_top {x v : Int32} (h : x = v) (k : W p l e R s m args below meth c H locs cells slots Q (F0 m pc ls (.int v :: rest))) : W p l e R s m args below meth c H locs cells slots Q (F0 m pc ls (.int x :: rest)) := by rw [h]; exact k
theorem sp_topl {x v : Int64} (h : x = v) (k : W p l e R s m args below meth c H locs cells slots Q (F0 m pc ls (.long v :: rest))) : W p l e R s m args below meth c H locs cells slots Q (F0 m pc ls (.long x :: rest)) := by rw [h]; exact k
theorem sp_iald {cl : List vw_C} {tys : List (ClassId × FieldType)} {wv : va_W} {a : Nat} (hx : p.tables.exec = Jvm.exec) (hb : c.code = cc) (hK : va_K D cl tys s) (hP : va_P D cl wv H) (q0 t0 : Nat) {cA : ClassId} {N : Nat} {f : Nat → Int32} (ha : wv[q0]? = some (a, .inl (cA, N, .inl f))) (ht : tys[t0]? = some (cA, .int)) {i : Nat} (hi : i < N) (hN : N < 2147483648) (hdg : decode cc pc = .ok (.iaload, 1))
    (kk : W p l e R s m args below meth c H locs cells slots Q (F0 m (pc + 1) ls (.int (f i) :: rest))) : W p l e R s m args below meth c H locs cells slots Q (F0 m pc ls (.int (nI i) :: .ref a :: rest)) := by
  refine va_iald hx hb hK hP q0 t0 ha ht (vp_in_nI hi hN) hdg ?_
  rw [nI_clamp (Nat.lt_trans hi hN)]
  exact kk
theorem sp_iast {cl : List vw_C} {tys : List (ClassId × FieldType)} {wv : va_W} {a : Nat} {H0 : Heap} (hx : p.tables.exec = Jvm.exec) (hb : c.code = cc) (hK : va_K D cl tys s) (hP : va_P D cl wv H) (hD : va_D A wv) (hS : va_S A H0 H locs) (q0 t0 : Nat) {cA : ClassId} {N : Nat} {f : Nat → Int32} (ha : wv[q0]? = some (a, .inl (cA, N, .inl f))) (ht : tys[t0]? = some (cA, .int)) {i : Nat} {x : Int32} (hi : i < N) (hN : N < 2147483648) (hdg : decode cc pc = .ok (.iastore, 1))
    (kk : ∀ (H1 : Heap) (locs1 : List Loc), va_P D cl (wv.set q0 (a, .inl (cA, N, .inl (upd f i x)))) H1 → va_D A (wv.set q0 (a, .inl (cA, N, .inl (upd f i x)))) → va_S A H0 H1 locs1 → W p l e R s m args below meth c H1 locs1 cells slots Q (F0 m (pc + 1) ls rest)) : W p l e R s m args below meth c H locs cells slots Q (F0 m pc ls (.int x :: .int (nI i) :: .ref a :: rest)) := by
  refine va_iast hx hb hK hP hD hS q0 t0 ha ht (vp_in_nI hi hN) hdg ?_
  rw [nI_clamp (Nat.lt_trans hi hN)]
  exact kk
/-- System.arraycopy of ints: nI n ints from nI i to nI j -/
theorem sp_copy {cl : List vw_C} {tys : List (ClassId × FieldType)} {wv : va_W} {a a0 : Nat} {H0 : Heap} (hx : p.tables.exec = Jvm.exec) (hb : c.code = cc) (hml : c.maxLocals = ls.size) {own : String} {index : Nat} (hown : s.vm.findClass own = some m.cls) (hlink : (Cond.methodLink own index arraycopyName).before args s = true) (hnat : (Cond.native arraycopyName).before args s = true) (hstat : (Cond.static arraycopyName).before args s = true) (hini : (Cond.initialized "java/lang/System").before args s = true)
    (hK : va_K D cl tys s) (hP : va_P D cl wv H) (hD : va_D A wv) (hS : va_S A H0 H locs) (q0 q1 : Nat) {cA : ClassId} {n0 n1 : Nat} {f g : Nat → Int32} (ha0 : wv[q0]? = some (a0, .inl (cA, n0, .inl f))) (ha1 : wv[q1]? = some (a, .inl (cA, n1, .inl g))) (ht0 : tys[0]? = some (cA, .int))
    (i j n : Nat) (h1 : i + n ≤ n0) (h2 : j + n ≤ n1) (hN0 : n0 < 2147483648) (hN1 : n1 < 2147483648) (hframes : 1 ≤ R.frames) (hlocals : (rest.map fun v => v.category).sum + 18 ≤ R.locals) (hdg : decode cc pc = .ok (.invokestatic index, 3))
    (kk : ∀ (H1 : Heap) (locs1 : List Loc), va_P D cl (wv.set q1 (a, .inl (cA, n1, .inl (va_cpy f g i j n)))) H1 → va_D A (wv.set q1 (a, .inl (cA, n1, .inl (va_cpy f g i j n)))) → va_S A H0 H1 locs1 → W p l e R s m args below meth c H1 locs1 cells slots Q (F0 m (pc + 3) ls rest)) : W p l e R s m args below meth c H locs cells slots Q (F0 m pc ls (.int (nI n) :: .int (nI j) :: .ref a :: .int (nI i) :: .ref a0 :: rest)) := by
  have e1 : (nI i).toNatClampNeg = i := nI_clamp (by omega)
  have e2 : (nI j).toNatClampNeg = j := nI_clamp (by omega)
  have e3 : (nI n).toNatClampNeg = n := nI_clamp (by omega)
  refine va_copyi (ty := .int) hx hb hml hown hlink hnat hstat hini hK hP hD hS q0 q1 0 0 ha0 ha1 ht0 ht0 rfl (nI_pos (by omega)) (nI_pos (by omega)) (nI_pos (by omega)) (by rw [e1, e3]; exact h1) (by rw [e2, e3]; exact h2) (fun _ _ => rfl) hframes hlocals hdg ?_
  rw [e1, e2, e3]
  exact kk
/-- tests of a boolean -/
theorem sp_if_eq {q : Bool} (hx : p.tables.exec = Jvm.exec) (hb : c.code = cc) {off : Int} {tgt : Nat} (hdg : decode cc pc = .ok (.ifCond .eq off, 3)) (ht : (pc : Int) + off = (tgt : Int))
    (kt : q = false → W p l e R s m args below meth c H locs cells slots Q (F0 m tgt ls rest)) (kf : q = true → W p l e R s m args below meth c H locs cells slots Q (F0 m (pc + 3) ls rest)) : W p l e R s m args below meth c H locs cells slots Q (F0 m pc ls (.int (bI q) :: rest)) :=
  lv_if_eq hx hb hdg ht (fun h => kt (by cases q; rfl; exact absurd h (by decide))) (fun h => kf (by cases q; exact absurd rfl h; rfl))
theorem sp_if_ne {q : Bool} (hx : p.tables.exec = Jvm.exec) (hb : c.code = cc) {off : Int} {tgt : Nat} (hdg : decode cc pc = .ok (.ifCond .ne off, 3)) (ht : (pc : Int) + off = (tgt : Int))
    (kt : q = true → W p l e R s m args below meth c H locs cells slots Q (F0 m tgt ls rest)) (kf : q = false → W p l e R s m args below meth c H locs cells slots Q (F0 m (pc + 3) ls rest)) : W p l e R s m args below meth c H locs cells slots Q (F0 m pc ls (.int (bI q) :: rest)) :=
  lv_if_ne hx hb hdg ht (fun h => kt (by cases q; exact absurd rfl h; rfl)) (fun h => kf (by cases q; rfl; exact absurd h (by decide)))
theorem lx_icmp_ge {x y : Int32} (hx : p.tables.exec = Jvm.exec) (hb : c.code = cc) {off : Int} {tgt : Nat} (hdg : decode cc pc = .ok (.if_icmp .ge off, 3)) (ht : (pc : Int) + off = (tgt : Int))
    (kt : ¬ x < y → W p l e R s m args below meth c H locs cells slots Q (F0 m tgt ls rest)) (kf : x < y → W p l e R s m args below meth c H locs cells slots Q (F0 m (pc + 3) ls rest)) : W p l e R s m args below meth c H locs cells slots Q (F0 m pc ls (.int y :: .int x :: rest)) :=
  lv_icmp_ge hx hb hdg ht (fun h => kt (Int32.not_lt.mpr h)) (fun h => kf (Int32.not_le.mp h))
theorem lx_icmp_le {x y : Int32} (hx : p.tables.exec = Jvm.exec) (hb : c.code = cc) {off : Int} {tgt : Nat} (hdg : decode cc pc = .ok (.if_icmp .le off, 3)) (ht : (pc : Int) + off = (tgt : Int))
    (kt : ¬ y < x → W p l e R s m args below meth c H locs cells slots Q (F0 m tgt ls rest)) (kf : y < x → W p l e R s m args below meth c H locs cells slots Q (F0 m (pc + 3) ls rest)) : W p l e R s m args below meth c H locs cells slots Q (F0 m pc ls (.int y :: .int x :: rest)) :=
  lv_icmp_le hx hb hdg ht (fun h => kt (Int32.not_lt.mpr h)) (fun h => kf (Int32.not_le.mp h))
theorem lx_if_ge {x : Int32} (hx : p.tables.exec = Jvm.exec) (hb : c.code = cc) {off : Int} {tgt : Nat} (hdg : decode cc pc = .ok (.ifCond .ge off, 3)) (ht : (pc : Int) + off = (tgt : Int))
    (kt : ¬ x < 0 → W p l e R s m args below meth c H locs cells slots Q (F0 m tgt ls rest)) (kf : x < 0 → W p l e R s m args below meth c H locs cells slots Q (F0 m (pc + 3) ls rest)) : W p l e R s m args below meth c H locs cells slots Q (F0 m pc ls (.int x :: rest)) :=
  lv_if_ge hx hb hdg ht (fun h => kt (Int32.not_lt.mpr h)) (fun h => kf (Int32.not_le.mp h))
theorem lx_if_le {x : Int32} (hx : p.tables.exec = Jvm.exec) (hb : c.code = cc) {off : Int} {tgt : Nat} (hdg : decode cc pc = .ok (.ifCond .le off, 3)) (ht : (pc : Int) + off = (tgt : Int))
    (kt : ¬ 0 < x → W p l e R s m args below meth c H locs cells slots Q (F0 m tgt ls rest)) (kf : 0 < x → W p l e R s m args below meth c H locs cells slots Q (F0 m (pc + 3) ls rest)) : W p l e R s m args below meth c H locs cells slots Q (F0 m pc ls (.int x :: rest)) :=
  lv_if_le hx hb hdg ht (fun h => kt (Int32.not_lt.mpr h)) (fun h => kf (Int32.not_le.mp h))
theorem sp_beq {q r : Bool} (hx : p.tables.exec = Jvm.exec) (hb : c.code = cc) {off : Int} {tgt : Nat} (hdg : decode cc pc = .ok (.if_icmp .eq off, 3)) (ht : (pc : Int) + off = (tgt : Int))
    (kt : q = r → W p l e R s m args below meth c H locs cells slots Q (F0 m tgt ls rest)) (kf : ¬ q = r → W p l e R s m args below meth c H locs cells slots Q (F0 m (pc + 3) ls rest)) : W p l e R s m args below meth c H locs cells slots Q (F0 m pc ls (.int (bI r) :: .int (bI q) :: rest)) :=
  lv_icmp_eq hx hb hdg ht (fun h => kt (by cases q <;> cases r <;> first | rfl | exact absurd h (by decide))) (fun h => kf (fun z => h (by rw [z])))
end SP
