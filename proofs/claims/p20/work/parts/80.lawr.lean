/-! p20: the law's body: what holds all through it; its calls -/
section PLD
variable {p : Program} {l : Launch} {e : Env} {R : Room} {s : State} {m : MethodId} {args : Array Value} {below : List Frame} {meth : Method} {c : Code} {H : Heap} {locs : List Loc} {cells slots : Nat} {Q : State → Prop}
variable {cc : ByteArray} {pc : Nat} {ls : Array Slot} {rest st0 : List Value} {D : va_G} {cI cT cL cG cZ : ClassId} {A : Nat → Prop}
variable {y : MethodName} {bytes : ByteArray} {maxL nL n index : Nat} {ret : Option FieldType} {ws Ts : List Cond} {rm : Room} {own C : String} {b : Addr} {As : List Value} {W0 w w' : va_W} {hh : List (Nat × Nat × Nat × Nat)}
/-- a static helper that reads the race -/
theorem pl_pO {v : Int32} {mc ms : Nat} (S : CallFix p m c cc nL s args Ts own) (hM : Met l y ws rm (MxP D cI cT (.ref b :: As) w H.size) (va_Qi (S := Unit) (fun z _ => z = v) (fun _ t => va_P D vwCl w t.heap) (frA (w.map Prod.fst) H.size)) mc ms (frA (w.map Prod.fst) H.size)) (cw : vx_CSW R s args own index y bytes maxL ret hh ws rm mc ms n) (hK : KK D cI cT s)
    (hXZ : XZ A s s.heap) (hXS : XS s) (hP : va_P D vwCl (W0 ++ w) H) (hD : va_D A (W0 ++ w)) (hS : va_S A s.heap H locs) (hA : ∀ q, s.heap.size ≤ q → A q)
    (hn : (Value.ref b :: As).length = n) (hsize : ls.size = nL) (hst : st0 = (Value.ref b :: As).reverse ++ rest) (hW : (rest.map fun v => v.category).sum ≤ 8)
    (hdg : decode cc pc = .ok (.invokestatic index, 3)) (hcs : mc ≤ 2 ∧ ms ≤ 12) (hf : cells + 2 ≤ R.cells ∧ slots + 12 ≤ R.slots)
    (kk : ∀ (H1 : Heap) (locs1 : List Loc), va_P D vwCl (W0 ++ w) H1 → va_D A (W0 ++ w) → va_S A s.heap H1 locs1 → W p l e R s m args below meth c H1 locs1 (cells + 2) (slots + 12) Q (F0 m (pc + 3) ls (.int v :: rest))) : W p l e R s m args below meth c H locs cells slots Q (F0 m pc ls st0) := by
  subst hst
  have hPw := pl_suf hP
  have hDw := pl_sufD hD
  have hF := frA_in hDw hS hA
  refine va_calli (vx_runSW (rest := rest) S hM cw ⟨MxP.blind, sp_mx hK hXZ hXS hPw hDw hS hA⟩ rfl hn hsize rfl (lv_room hW) hdg ⟨by omega, by omega⟩) hS (fun q _ h => hF q h) hF (fun z u t H1 locs1 ht hvm hw hB hz hk hS1 => ?_)
  rw [ht] at hB
  subst hw
  refine W.widen (k := cells + 2) (n := slots + 12) (by omega) (by omega) ?_
  exact kk H1 locs1 (va_P.app (pl_pre hP hD hk) hB) hD hS1
/-- the race itself is called behind the other cells: it writes all of its own -/
theorem pl_sI {v : Int32} (S : CallFix p m c cc nL s args Ts own) (hM : MetI l D cI cT y ws rm (.ref b :: As) w [] w' v) (cw : CallW R s args own C index y bytes maxL ret ws rm 0 0 n) (hK : KK D cI cT s)
    (hP : va_P D vwCl (W0 ++ w) H) (hD : va_D A (W0 ++ w)) (hS : va_S A s.heap H locs) (hm : w'.map Prod.fst = w.map Prod.fst)
    {ci : Nat} {q : vw_C} {fs : List Value} (hc : vwCl[ci]? = some q) (he : w[0]? = some (b, .inr (ci, fs))) (hcC : q.1 = C) (hn : As.length = n) (hsize : ls.size = nL) (hst : st0 = As.reverse ++ .ref b :: rest) (hW : (rest.map fun v => v.category).sum ≤ 8)
    (hdg : decode cc pc = .ok (.invokevirtual index, 3)) (hf : cells ≤ R.cells ∧ slots ≤ R.slots)
    (kk : ∀ (H1 : Heap) (locs1 : List Loc), va_P D vwCl (W0 ++ w') H1 → va_D A (W0 ++ w') → va_S A s.heap H1 locs1 → W p l e R s m args below meth c H1 locs1 cells slots Q (F0 m (pc + 3) ls (.int v :: rest))) : W p l e R s m args below meth c H locs cells slots Q (F0 m pc ls st0) := by
  subst hst hcC
  have hPw := pl_suf hP
  have hN := sp_nod (pl_sufD hD)
  have hF : ∀ q, fr (w.map Prod.fst) q → A q := fun q hq => by
    obtain ⟨x, hx, rfl⟩ := List.mem_map.mp hq
    obtain ⟨k, hk⟩ := List.getElem?_of_mem (List.mem_append_right W0 hx)
    exact hD.2 k x hk
  refine va_calli (va_runV (rest := rest) S hM cw ⟨MuP.blind, va_recv hK.1 hPw hc he, fun U hU hW => ⟨rfl, by rw [hU]; exact hPw, fun k q h => by simp at h, hK.warm hW, by rw [List.append_nil]; exact hN⟩⟩ rfl hn hsize rfl (lv_room hW) hdg hf) hS (fun q _ h => hF q h) hF (fun z u t H1 locs1 ht hvm hw hB hz hk hS1 => ?_)
  rw [ht] at hB
  subst hw
  refine kk H1 locs1 (va_P.app (pl_pre hP hD (fun q h1 h2 => hk q h1 (fun z => h2 (Or.inl z)))) hB) (sp_Dsame ?_ hD) hS1
  rw [List.map_append, List.map_append, hm]
/-- the race's mean: it may draw -/
theorem pl_sD {post : UInt64 → Prop} {d0 : Drawn} (hd0 : s.drawn.sameBut d0 lw_cs) (S : CallFix p m c cc nL (s.setDrawn d0) args Ts own) (hM : MetDD l D cI cT y ws rm (.ref b :: As) w [] w' post) (cw : CallW R (s.setDrawn d0) args own C index y bytes maxL ret ws rm 0 0 n) (hK : KK D cI cT s)
    (hP : va_P D vwCl (W0 ++ w) H) (hD : va_D A (W0 ++ w)) (hS : va_S A s.heap H locs) (hm : w'.map Prod.fst = w.map Prod.fst)
    {ci : Nat} {q : vw_C} {fs : List Value} (hc : vwCl[ci]? = some q) (he : w[0]? = some (b, .inr (ci, fs))) (hcC : q.1 = C) (hn : As.length = n) (hsize : ls.size = nL) (hst : st0 = As.reverse ++ .ref b :: rest) (hW : (rest.map fun v => v.category).sum ≤ 8)
    (hdg : decode cc pc = .ok (.invokevirtual index, 3)) (hf : cells ≤ R.cells ∧ slots ≤ R.slots)
    (kk : ∀ (r : UInt64) (H1 : Heap) (locs1 : List Loc) (d1 : Drawn), s.drawn.sameBut d1 lw_cs → post r → va_P D vwCl (W0 ++ w') H1 → va_D A (W0 ++ w') → va_S A s.heap H1 locs1 → W p l e R (s.setDrawn d1) m args below meth c H1 locs1 cells slots Q (F0 m (pc + 3) ls (.double r :: rest))) : W p l e R (s.setDrawn d0) m args below meth c H locs cells slots Q (F0 m pc ls st0) := by
  subst hst hcC
  have hPw := pl_suf hP
  have hN := sp_nod (pl_sufD hD)
  have hF : ∀ q, fr (w.map Prod.fst) q → A q := fun q hq => by
    obtain ⟨x, hx, rfl⟩ := List.mem_map.mp hq
    obtain ⟨k, hk⟩ := List.getElem?_of_mem (List.mem_append_right W0 hx)
    exact hD.2 k x hk
  have hK2 : KK D cI cT (s.setDrawn d0) := hK.draw d0
  refine va_calldD hd0 (va_runV_D (rest := rest) S hM cw ⟨MuP.blind, va_recv hK2.1 hPw hc he, fun U hU hW => ⟨rfl, by rw [hU]; exact hPw, fun k q h => by simp at h, hK2.warm hW, by rw [List.append_nil]; exact hN⟩⟩ rfl hn hsize rfl (lv_room hW) hdg hf) hS (fun q _ h => hF q h) hF (fun r u t H1 locs1 ht hvm hw hB hz hk hS1 d1 hd1 => ?_)
  rw [ht] at hB
  refine kk r H1 locs1 d1 hd1 hw (va_P.app (pl_pre hP hD (fun q h1 h2 => hk q h1 (fun z => h2 (Or.inl z)))) hB) (sp_Dsame ?_ hD) hS1
  rw [List.map_append, List.map_append, hm]
/-- the law's own build is called -/
theorem pl_bu {bs L : Nat} {xs : Nat → Int32} {mc ms : Nat} {BQ : Nat → va_W → Prop} (S : CallFix p m c cc nL s args Ts own) (hM : Met l y ws rm (BuP D cI cT cL cG cZ As w bs L xs H.size) (va_Qr (S := Unit) (fun _ => True) (fun _ ra t => ∃ W', BQ ra W' ∧ va_P D vwCl W' t.heap ∧ va_D (frA (w.map Prod.fst) H.size) W') (frA (w.map Prod.fst) H.size)) mc ms (frA (w.map Prod.fst) H.size)) (cw : CallB R s args own index y bytes maxL ret ws rm mc ms n ∧ (Cond.static y).before args s = true) (hX : KX D cI cT cL cG cZ s)
    (hXZ : XZ A s s.heap) (hXS : XS s) (hXs : va_X bs L xs s s.heap) (hbl : bs < s.heap.size) (hbA : ¬ A bs) (hP : va_P D vwCl w H) (hD : va_D A w) (hS : va_S A s.heap H locs) (hA : ∀ q, s.heap.size ≤ q → A q)
    (hn : As.length = n) (hsize : ls.size = nL) (hst : st0 = As.reverse ++ rest) (hW : (rest.map fun v => v.category).sum ≤ 8)
    (hdg : decode cc pc = .ok (.invokestatic index, 3)) (hf : cells + mc ≤ R.cells ∧ slots + ms ≤ R.slots)
    (kk : ∀ (ra : Nat) (W' : va_W) (H1 : Heap) (locs1 : List Loc), BQ ra W' → va_P D vwCl W' H1 → va_D A W' → va_S A s.heap H1 locs1 → W p l e R s m args below meth c H1 locs1 (cells + mc) (slots + ms) Q (F0 m (pc + 3) ls (.ref ra :: rest))) : W p l e R s m args below meth c H locs cells slots Q (F0 m pc ls st0) := by
  subst hst
  have hF := frA_in hD hS hA
  have hbn : ¬ bs ∈ w.map Prod.fst := fun z => hbA (hF bs (Or.inl z))
  refine va_callr (va_runS (rest := rest) S hM cw ⟨BuP.blind, fun U hU hW => ⟨⟨⟨rfl, by rw [hU], by rw [hU]; exact hP, fun k q h => by simp at h, hX.1.warm hW, sp_nod2 hD⟩, hXZ.at hS hF hU hW, hXS.warm hW⟩, hX.warm hW, by rw [hU]; exact va_X.moved hW.alike (hXs.kept (hS.2.1 bs hbl hbA)), hbn⟩⟩ rfl hn hsize rfl (lv_room hW) hdg hf) hS (fun q _ h => hF q h) hF (fun u ra t H1 locs1 ht hvm hw hB hz hk hS1 => ?_)
  rw [ht] at hB
  obtain ⟨W', h1, h2, h3⟩ := hB
  exact kk ra W' H1 locs1 h1 h2 (h3.weaken (fun _ _ _ z => hF _ z)) hS1
/-- a team of the law's out of its row of teams -/
theorem pl_lld {wv : va_W} {a : Nat} (hx : p.tables.exec = Jvm.exec) (hb : c.code = cc) (hX : KX D cI cT cL cG cZ s) (hP : va_P D vwCl wv H) (q0 : Nat) {N : Nat} {f : Nat → Option Nat} (ha : wv[q0]? = some (a, aQ cL N f)) {i v : Nat} (hi : i < N) (hN : N < 2147483648) (hv : f i = some v) (hdg : decode cc pc = .ok (.aaload, 1))
    (kk : W p l e R s m args below meth c H locs cells slots Q (F0 m (pc + 1) ls (.ref v :: rest))) : W p l e R s m args below meth c H locs cells slots Q (F0 m pc ls (.int (nI i) :: .ref a :: rest)) := by
  refine va_aldq hx hb hX.2.1 hP q0 1 ha rfl (vp_in_nI hi hN) hdg ?_
  rw [nI_clamp (Nat.lt_trans hi hN), hv]
  exact kk
end PLD
theorem pl_at {LW r : va_W} {q : Nat} {x : Nat × va_E} (h : LW[q]? = some x) : (LW ++ r)[q]? = some x := by
  rw [List.getElem?_append_left (List.getElem?_eq_some_iff.mp h).1]; exact h
/-- what holds all through the law's body -/
def LX (p : Program) (l : Launch) (s : State) (m : MethodId) (args : Array Value) (c : Code) (D : va_G) (cI cT cL cG cZ : ClassId) : Prop :=
  p.tables.exec = Jvm.exec ∧ c.code = cL_law ∧ c.maxLocals = 22 ∧ s.vm.findClass RL = some m.cls ∧ (∀ w ∈ wsL_law, w.before args s = true) ∧ KX D cI cT cL cG cZ s ∧ XS s ∧ XZ (fun q => s.heap.size ≤ q) s s.heap ∧ l.stackTraces = false
theorem LX.draw {p : Program} {l : Launch} {s : State} {m : MethodId} {args : Array Value} {c : Code} {D : va_G} {cI cT cL cG cZ : ClassId} (h : LX p l s m args c D cI cT cL cG cZ) (d : Drawn) : LX p l (s.setDrawn d) m args c D cI cT cL cG cZ := by
  obtain ⟨hx, hb, hml, hown, hts, hX, hXS, hXZ, hl9⟩ := h
  exact ⟨hx, hb, hml, hown, dr_words hts d, hX.draw d, hXS.draw d, hXZ, hl9⟩
/-- a team of the law beside a team of the race -/
def LRf (cI : ClassId) (f : Nat → Option Nat) (LW : va_W) (T : TV) (i : Nat) : Prop := ∃ (ta q ra q2 ha q3 : Nat) (ca lf : Value) (F P G : Nat → Int32) (nr nh w ln : Nat), f i = some ta ∧ LW[q]? = some (ta, oYv F (.ref ra) ca (.ref ha) lf) ∧ LW[q2]? = some (ra, aI cI nr P) ∧ LW[q3]? = some (ha, aI cI nh G) ∧ F 0 = nI ln ∧ F 1 = nI w ∧ T.1 1 = nI ln ∧ T.1 2 = nI w ∧ T.1 3 = nI nr ∧ T.1 6 = nI nh ∧ nr ≤ 8 ∧ nh ≤ 3 ∧ w ≤ 99 ∧ (20 ≤ ln ∧ ln ≤ 80)
theorem LRf.tick {cI : ClassId} {f : Nat → Option Nat} {LW : va_W} {T T2 : TV} {i : Nat} (h : LRf cI f LW T i) (e : ∀ j, j < 10 → T2.1 j = T.1 j) : LRf cI f LW T2 i := by
  obtain ⟨ta, q, ra, q2, ha, q3, ca, lf, F, P, G, nr, nh, w, ln, h1, h2, h3, h4, h5, h6, h7, h8, h9, h10, h11⟩ := h
  exact ⟨ta, q, ra, q2, ha, q3, ca, lf, F, P, G, nr, nh, w, ln, h1, h2, h3, h4, h5, h6, by rw [e 1 (by decide)]; exact h7, by rw [e 2 (by decide)]; exact h8, by rw [e 3 (by decide)]; exact h9, by rw [e 6 (by decide)]; exact h10, h11⟩
theorem LTs.rf {cI : ClassId} {f : Nat → Option Nat} {LW : va_W} {T : Nat → TV} {i : Nat} (x y : Nat × va_E) (h : LTs cI f LW T i) : LRf cI f (x :: y :: LW) (T (i + 2)) i := by
  obtain ⟨ta, q, ra, q2, ha, q3, ca, lf, F, P, G, len, w, nr, pu, st, nh, rope, eff, gap, h1, h2, h3, h4, h5, h6, h7, h8⟩ := h
  exact ⟨ta, q + 2, ra, q2 + 2, ha, q3 + 2, ca, lf, F, P, G, nr, nh, w, len, h1, h2, h3, h4, h5, h6, by rw [h7]; rfl, by rw [h7]; rfl, by rw [h7]; rfl, by rw [h7]; rfl, by omega, by omega, by omega, by omega⟩
theorem inlX2 : ∀ w ∈ wsX20, w ∈ wsL_law := fun _ h => List.mem_append_left _ (List.mem_append_left _ (List.mem_append_left _ (List.mem_append_left _ (List.mem_append_left _ (List.mem_append_left _ (List.mem_append_left _ (List.mem_append_left _ (List.mem_append_right _ h))))))))
theorem inlX3 : ∀ w ∈ wsX30, w ∈ wsL_law := fun _ h => List.mem_append_left _ (List.mem_append_left _ (List.mem_append_left _ (List.mem_append_left _ (List.mem_append_left _ (List.mem_append_left _ (List.mem_append_left _ (List.mem_append_right _ h)))))))
theorem inlX4 : ∀ w ∈ wsX40, w ∈ wsL_law := fun _ h => List.mem_append_left _ (List.mem_append_left _ (List.mem_append_left _ (List.mem_append_left _ (List.mem_append_left _ (List.mem_append_left _ (List.mem_append_right _ h))))))
