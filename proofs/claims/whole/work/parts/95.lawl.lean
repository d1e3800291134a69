/-! The law's body: calls beside the cells of the other side -/
theorem sp_suf {D : va_G} {cl : List vw_C} {W0 w : va_W} {H : Heap} (hP : va_P D cl (W0 ++ w) H) : va_P D cl w H := fun k q hq => hP (W0.length + k) q (by rw [List.getElem?_append_right (by omega), show W0.length + k - W0.length = k by omega]; exact hq)
theorem sp_cons {D : va_G} {cl : List vw_C} {q0 : Nat × va_E} {w : va_W} {H : Heap} (h1 : va_P D cl [q0] H) (h2 : va_P D cl w H) : va_P D cl (q0 :: w) H := fun k q hq => by
  cases k with
  | zero => exact h1 0 q hq
  | succ k => exact h2 k q hq
theorem sp_hd {D : va_G} {cl : List vw_C} {q0 : Nat × va_E} {w : va_W} {H : Heap} (h : va_P D cl (q0 :: w) H) : va_P D cl [q0] H := fun k q hq => by
  cases k with
  | zero => exact h 0 q hq
  | succ k => cases hq
theorem sp_tl {D : va_G} {cl : List vw_C} {q0 : Nat × va_E} {w : va_W} {H : Heap} (h : va_P D cl (q0 :: w) H) : va_P D cl w H := fun k q hq => h (k + 1) q hq
theorem sp_pre {D : va_G} {A : Nat → Prop} {W0 w : va_W} {H H1 : Heap} (hP : va_P D vwCl (W0 ++ w) H) (hD : va_D A (W0 ++ w)) (hk : ∀ q : Nat, q < H.size → ¬ frA (w.map Prod.fst) H.size q → H1[q]? = H[q]?) : va_P D vwCl W0 H1 := by
  refine (xb_P hP).kept (fun i x hx => hk x.1 ((xb_P hP) i x hx).lt (fun hq => ?_))
  have hlt := (List.getElem?_eq_some_iff.mp hx).1
  have hx2 : (W0 ++ w)[i]? = some x := by rw [List.getElem?_append_left hlt]; exact hx
  rcases hq with hq | hq
  · obtain ⟨y, hy, hyx⟩ := List.mem_map.mp hq
    obtain ⟨j, hj⟩ := List.getElem?_of_mem hy
    have hy2 : (W0 ++ w)[W0.length + j]? = some y := by
      rw [List.getElem?_append_right (by omega), show W0.length + j - W0.length = j by omega]; exact hj
    have := hD.1 i (W0.length + j) x y hx2 hy2 hyx.symm
    omega
  · have := (hP i x hx2).lt
    omega
theorem sp_appD {A : Nat → Prop} {W0 w w1 : va_W} {sz : Nat} {D : va_G} {H : Heap} (hP : va_P D vwCl (W0 ++ w) H) (hsz : H.size ≤ sz) (hD : va_D A (W0 ++ w)) (hD1 : va_D (frA (w.map Prod.fst) sz) w1) (hF : ∀ q, frA (w.map Prod.fst) sz q → A q) : va_D A (W0 ++ w1) := by
  have hne : ∀ (i : Nat) (x : Nat × va_E), W0[i]? = some x → ¬ frA (w.map Prod.fst) sz x.1 := fun i x hx hq => by
    have hlt := (List.getElem?_eq_some_iff.mp hx).1
    have hx2 : (W0 ++ w)[i]? = some x := by rw [List.getElem?_append_left hlt]; exact hx
    rcases hq with hq | hq
    · obtain ⟨y, hy, hyx⟩ := List.mem_map.mp hq
      obtain ⟨j, hj⟩ := List.getElem?_of_mem hy
      have hy2 : (W0 ++ w)[W0.length + j]? = some y := by
        rw [List.getElem?_append_right (by omega), show W0.length + j - W0.length = j by omega]; exact hj
      have := hD.1 i (W0.length + j) x y hx2 hy2 hyx.symm
      omega
    · have := (hP i x hx2).lt
      omega
  refine va_D.app ⟨fun i j x y hi hj => ?_, fun i x hx => ?_⟩ (hD1.weaken (fun _ _ _ z => hF _ z)) (fun i j x y hi hj z => hne i x hi (by rw [z]; exact hD1.2 j y hj))
  · exact hD.1 i j x y (by rw [List.getElem?_append_left (List.getElem?_eq_some_iff.mp hi).1]; exact hi) (by rw [List.getElem?_append_left (List.getElem?_eq_some_iff.mp hj).1]; exact hj)
  · exact hD.2 i x (by rw [List.getElem?_append_left (List.getElem?_eq_some_iff.mp hx).1]; exact hx)
theorem hWd_fst {res : Int32 ⊕ String} {w w' : va_W} (h : w'.map Prod.fst = w.map Prod.fst) : (hWd res w w').map Prod.fst = w.map Prod.fst := by
  cases res with
  | inl v => exact h
  | inr E => rfl
theorem KK.draw {D : va_G} {cI cT : ClassId} {U : State} (d : Drawn) (h : KK D cI cT U) : KK D cI cT (U.setDrawn d) :=
  ⟨va_K.moved (u := U) (U := U.setDrawn d) (Vm.Alike.refl U.vm) h.1, fun w hw => va_Nw.same (u := U) (U := U.setDrawn d) (sp_nest_tab w hw) rfl (h.2 w hw)⟩
theorem XS.draw {U : State} (d : Drawn) (h : XS U) : XS (U.setDrawn d) :=
  ⟨fun q hq => (h.1 q hq).elim fun sa z => ⟨sa, vk_R.same (u := U) (U := U.setDrawn d) rfl z⟩, va_Nw.same (u := U) (U := U.setDrawn d) rfl rfl h.2.1, va_Nw.same (u := U) (U := U.setDrawn d) rfl rfl h.2.2.1, va_Nw.same (u := U) (U := U.setDrawn d) rfl rfl h.2.2.2.1, va_AO.moved (u := U) (U := U.setDrawn d) (Vm.Alike.refl U.vm) h.2.2.2.2.1, fun w hw => by
    have h9 := h.2.2.2.2.2 w hw
    simp only [xdec, List.mem_cons, List.not_mem_nil, or_false] at hw
    rcases hw with rfl | rfl | rfl <;> exact va_Nw.same (u := U) (U := U.setDrawn d) rfl rfl h9⟩
section SPL
variable {p : Program} {l : Launch} {e : Env} {R : Room} {s : State} {m : MethodId} {args : Array Value} {below : List Frame} {meth : Method} {c : Code} {H : Heap} {locs : List Loc} {cells slots : Nat} {Q : State → Prop}
variable {cc : ByteArray} {pc : Nat} {ls : Array Slot} {rest st0 : List Value} {D : va_G} {cI cT cJ : ClassId} {A : Nat → Prop}
variable {y : MethodName} {bytes : ByteArray} {maxL nL n index : Nat} {ret : Option FieldType} {ws Ts : List Cond} {rm : Room} {own C : String} {As : List Value} {hh : List (Nat × Nat × Nat × Nat)} {R4 w w' : va_W} {o : Nat} {f : Nat → Int64} {kc : String → Int32} {res : Int32 ⊕ String} {mc ms : Nat}
theorem sp_hpre {b : List Value} (hK : KK D cI cT s) (hXZ : XZ A s s.heap) (hXS : XS s) (hXN : XN s) (hJ : va_K D vwCl [(cJ, .long)] s)
    (hP : va_P D vwCl (R4 ++ (o, aJ cJ f) :: w) H) (hD : va_D A (R4 ++ (o, aJ cJ f) :: w)) (hS : va_S A s.heap H locs) (hF : ∀ q, frA (w.map Prod.fst ++ [o]) H.size q → A q) : ∀ U : State, U.heap = H → s.WarmedH U.vm → HmP D cI cT cJ b w o f H.size b.toArray U := by
  intro U hU hW
  have hN := sp_nod hD
  rw [List.map_append] at hN
  have hN2 := (List.nodup_append.mp hN).2.1
  have hN3 : (o :: w.map Prod.fst).Nodup := hN2
  have ho := (List.nodup_cons.mp hN3).1
  have hNw := (List.nodup_cons.mp hN3).2
  exact ⟨⟨⟨rfl, by rw [hU], by rw [hU]; exact sp_tl (sp_suf hP), fun k q h => by simp at h, hK.warm hW, by rw [List.append_nil]; exact hNw⟩, hXZ.at hS hF hU hW, hXS.warm hW⟩, by rw [hU]; exact sp_hd (sp_suf hP), ho, va_K.moved hW.alike hJ, hXN.warm hW⟩
theorem sp_hF (hD : va_D A (R4 ++ (o, aJ cJ f) :: w)) (hS : va_S A s.heap H locs) (hA : ∀ q, s.heap.size ≤ q → A q) : ∀ q, frA (w.map Prod.fst ++ [o]) H.size q → A q := fun q hq => by
  refine frA_in hD hS hA q (hq.elim (fun h => Or.inl ?_) (fun h => Or.inr h))
  simp only [List.map_append, List.map_cons, List.mem_append, List.mem_cons, List.not_mem_nil, or_false] at h ⊢
  rcases h with h | h
  · exact Or.inr (Or.inr h)
  · exact Or.inr (Or.inl h)
theorem sp_hk {sz q : Nat} (h : ¬ frA (((o, aJ cJ f) :: w).map Prod.fst) sz q) : ¬ frA (w.map Prod.fst ++ [o]) sz q := fun z => h (by
  rcases z with z | z
  · refine Or.inl ?_
    simp only [List.map_cons, List.mem_append, List.mem_cons, List.not_mem_nil, or_false] at z ⊢
    rcases z with z | z
    · exact Or.inr z
    · exact Or.inl z
  · exact Or.inr z)
/-- a helper is called -/
theorem sp_hI (S : CallFix p m c cc nL s args Ts own) (hM : MetHm l D cI cT cJ y ws rm As w w' o f kc res mc ms H.size) (cw : vx_CSW R s args own index y bytes maxL ret hh ws rm mc ms n) (hK : KK D cI cT s) (hXZ : XZ A s s.heap) (hXS : XS s) (hXN : XN s) (hJ : va_K D vwCl [(cJ, .long)] s)
    (hP : va_P D vwCl (R4 ++ (o, aJ cJ f) :: w) H) (hD : va_D A (R4 ++ (o, aJ cJ f) :: w)) (hS : va_S A s.heap H locs) (hA : ∀ q, s.heap.size ≤ q → A q) (hm : w'.map Prod.fst = w.map Prod.fst)
    (hn : As.length = n) (hsize : ls.size = nL) (hst : st0 = As.reverse ++ rest) (hW : (rest.map fun v => v.category).sum ≤ 8) (hdg : decode cc pc = .ok (.invokestatic index, 3)) (hf : cells + mc ≤ R.cells ∧ slots + ms ≤ R.slots)
    (kk : ∀ (f2 : Nat → Int64) (H1 : Heap) (locs1 : List Loc), (∀ v, res = .inl v → f2 0 = Int32.toInt64 v) → va_P D vwCl (R4 ++ (o, aJ cJ f2) :: hWd res w w') H1 → va_D A (R4 ++ (o, aJ cJ f2) :: hWd res w w') → va_S A s.heap H1 locs1 → W p l e R s m args below meth c H1 locs1 (cells + mc) (slots + ms) Q (F0 m (pc + 3) ls (.int (hcode kc res) :: rest))) : W p l e R s m args below meth c H locs cells slots Q (F0 m pc ls st0) := by
  subst hst
  have hF := sp_hF (R4 := R4) (f := f) hD hS hA
  refine va_calli (vx_runSW (rest := rest) S hM cw ⟨HmP.blind, sp_hpre hK hXZ hXS hXN hJ hP hD hS hF⟩ rfl hn hsize rfl (lv_room hW) hdg hf) hS (fun q _ h => hF q h) hF (fun z f2 t H1 locs1 ht hvm hw hB hz hk hS1 => ?_)
  rw [ht] at hB
  obtain ⟨rfl, hv⟩ := hw
  refine kk f2 H1 locs1 hv (va_P.app (sp_pre hP hD (fun q h1 h2 => hk q h1 (sp_hk h2))) (sp_cons hB.2 hB.1)) (sp_Dsame ?_ hD) hS1
  rw [List.map_append, List.map_append, List.map_cons, List.map_cons, hWd_fst hm]
/-- the helper addTeam is called -/
theorem sp_hN {k : Nat} {wn : List Nat → va_W} (S : CallFix p m c cc nL s args Ts own) (hM : MetHN l D cI cT cJ y ws rm As w wn k o f kc res mc ms H.size) (cw : vx_CSW R s args own index y bytes maxL ret hh ws rm mc ms n) (hK : KK D cI cT s) (hXZ : XZ A s s.heap) (hXS : XS s) (hXN : XN s) (hJ : va_K D vwCl [(cJ, .long)] s)
    (hP : va_P D vwCl (R4 ++ (o, aJ cJ f) :: w) H) (hD : va_D A (R4 ++ (o, aJ cJ f) :: w)) (hS : va_S A s.heap H locs) (hA : ∀ q, s.heap.size ≤ q → A q)
    (hn : As.length = n) (hsize : ls.size = nL) (hst : st0 = As.reverse ++ rest) (hW : (rest.map fun v => v.category).sum ≤ 8) (hdg : decode cc pc = .ok (.invokestatic index, 3)) (hf : cells + mc ≤ R.cells ∧ slots + ms ≤ R.slots)
    (kk : ∀ (v : Int32) (u : List Nat) (f2 : Nat → Int64) (H1 : Heap) (locs1 : List Loc), res = .inl v → u.length = k → f2 0 = Int32.toInt64 v → va_P D vwCl (R4 ++ (o, aJ cJ f2) :: wn u) H1 → va_D A (R4 ++ (o, aJ cJ f2) :: wn u) → va_S A s.heap H1 locs1 → W p l e R s m args below meth c H1 locs1 (cells + mc) (slots + ms) Q (F0 m (pc + 3) ls (.int (hcode kc res) :: rest)))
    (kx : ∀ (E : String) (f2 : Nat → Int64) (H1 : Heap) (locs1 : List Loc), res = .inr E → va_P D vwCl (R4 ++ (o, aJ cJ f2) :: w) H1 → va_D A (R4 ++ (o, aJ cJ f2) :: w) → va_S A s.heap H1 locs1 → W p l e R s m args below meth c H1 locs1 (cells + mc) (slots + ms) Q (F0 m (pc + 3) ls (.int (hcode kc res) :: rest))) : W p l e R s m args below meth c H locs cells slots Q (F0 m pc ls st0) := by
  subst hst
  have hF := sp_hF (R4 := R4) (f := f) hD hS hA
  refine va_calli (vx_runSW (rest := rest) S hM cw ⟨HmP.blind, sp_hpre hK hXZ hXS hXN hJ hP hD hS hF⟩ rfl hn hsize rfl (lv_room hW) hdg hf) hS (fun q _ h => hF q h) hF (fun z uf t H1 locs1 ht hvm hw hB hz hk hS1 => ?_)
  obtain ⟨u, f2⟩ := uf
  rw [ht] at hB
  obtain ⟨rfl, hv⟩ := hw
  obtain ⟨hB1, hB2⟩ := hB
  have hP0 := sp_pre hP hD (fun q h1 h2 => hk q h1 (sp_hk h2))
  have hsame : va_D A (R4 ++ (o, aJ cJ f2) :: w) := sp_Dsame (by rw [List.map_append, List.map_append, List.map_cons, List.map_cons]) hD
  cases hres : res with
  | inl v =>
    rw [hres] at hB1
    obtain ⟨hu, hP1, hD1⟩ := hB1
    have e1 : R4 ++ (o, aJ cJ f) :: w = (R4 ++ [(o, aJ cJ f)]) ++ w := by rw [List.append_assoc]; rfl
    have e2 : R4 ++ (o, aJ cJ f2) :: wn u = (R4 ++ [(o, aJ cJ f2)]) ++ wn u := by rw [List.append_assoc]; rfl
    have hDn : va_D A (R4 ++ (o, aJ cJ f2) :: wn u) := by
      rw [e2]
      have hD9 : va_D A ((R4 ++ [(o, aJ cJ f)]) ++ wn u) := sp_appD (sz := H.size) (by rw [← e1]; exact hP) (Nat.le_refl _) (by rw [← e1]; exact hD) hD1 (fun q hq => hF q (hq.elim (fun h => Or.inl (List.mem_append_left _ h)) (fun h => Or.inr h)))
      exact sp_Dsame (by simp only [List.map_append, List.map_cons, List.map_nil]) hD9
    have hgo := kk v u f2 H1 locs1 hres hu (hv v hres) (va_P.app hP0 (sp_cons hB2 hP1)) hDn hS1
    rw [hres] at hgo
    exact hgo
  | inr E =>
    rw [hres] at hB1
    have hgo := kx E f2 H1 locs1 hres (va_P.app hP0 (sp_cons hB2 hB1)) hsame hS1
    rw [hres] at hgo
    exact hgo
/-- the race itself is called behind the other cells: it writes all of its own -/
theorem sp_sI {v : Int32} {b : Addr} {W0 : va_W} (S : CallFix p m c cc nL s args Ts own) (hM : MetI l D cI cT y ws rm (.ref b :: As) w [] w' v) (cw : CallW R s args own C index y bytes maxL ret ws rm 0 0 n) (hK : KK D cI cT s)
    (hP : va_P D vwCl (W0 ++ w) H) (hD : va_D A (W0 ++ w)) (hS : va_S A s.heap H locs) (hm : w'.map Prod.fst = w.map Prod.fst)
    {ci : Nat} {q : vw_C} {fs : List Value} (hc : vwCl[ci]? = some q) (he : w[0]? = some (b, .inr (ci, fs))) (hcC : q.1 = C) (hn : As.length = n) (hsize : ls.size = nL) (hst : st0 = As.reverse ++ .ref b :: rest) (hW : (rest.map fun v => v.category).sum ≤ 8)
    (hdg : decode cc pc = .ok (.invokevirtual index, 3)) (hf : cells ≤ R.cells ∧ slots ≤ R.slots)
    (kk : ∀ (H1 : Heap) (locs1 : List Loc), va_P D vwCl (W0 ++ w') H1 → va_D A (W0 ++ w') → va_S A s.heap H1 locs1 → W p l e R s m args below meth c H1 locs1 cells slots Q (F0 m (pc + 3) ls (.int v :: rest))) : W p l e R s m args below meth c H locs cells slots Q (F0 m pc ls st0) := by
  subst hst hcC
  have hPw := sp_suf hP
  have hN := sp_nod hD
  rw [List.map_append] at hN
  have hNw := (List.nodup_append.mp hN).2.1
  have hF : ∀ q, fr (w.map Prod.fst) q → A q := fun q hq => by
    obtain ⟨x, hx, rfl⟩ := List.mem_map.mp hq
    obtain ⟨k, hk⟩ := List.getElem?_of_mem (List.mem_append_right W0 hx)
    exact hD.2 k x hk
  refine va_calli (va_runV (rest := rest) S hM cw ⟨MuP.blind, va_recv hK.1 hPw hc he, fun U hU hW => ⟨rfl, by rw [hU]; exact hPw, fun k q h => by simp at h, hK.warm hW, by rw [List.append_nil]; exact hNw⟩⟩ rfl hn hsize rfl (lv_room hW) hdg hf) hS (fun q _ h => hF q h) hF (fun z u t H1 locs1 ht hvm hw hB hz hk hS1 => ?_)
  rw [ht] at hB
  subst hw
  refine kk H1 locs1 (va_P.app (sp_pre hP hD (fun q h1 h2 => hk q h1 (fun z => h2 (Or.inl z)))) hB) (sp_Dsame ?_ hD) hS1
  rw [List.map_append, List.map_append, hm]
/-- the race's mean, and the reference's: they may draw -/
theorem sp_sD {b : Addr} {W0 : va_W} {post : UInt64 → Prop} {d0 : Drawn} (hd0 : s.drawn.sameBut d0 lw_cs) (S : CallFix p m c cc nL (s.setDrawn d0) args Ts own) (hM : MetDD l D cI cT y ws rm (.ref b :: As) w [] w' post) (cw : CallW R (s.setDrawn d0) args own C index y bytes maxL ret ws rm 0 0 n) (hK : KK D cI cT s)
    (hP : va_P D vwCl (W0 ++ w) H) (hD : va_D A (W0 ++ w)) (hS : va_S A s.heap H locs) (hm : w'.map Prod.fst = w.map Prod.fst)
    {ci : Nat} {q : vw_C} {fs : List Value} (hc : vwCl[ci]? = some q) (he : w[0]? = some (b, .inr (ci, fs))) (hcC : q.1 = C) (hn : As.length = n) (hsize : ls.size = nL) (hst : st0 = As.reverse ++ .ref b :: rest) (hW : (rest.map fun v => v.category).sum ≤ 8)
    (hdg : decode cc pc = .ok (.invokevirtual index, 3)) (hf : cells ≤ R.cells ∧ slots ≤ R.slots)
    (kk : ∀ (r : UInt64) (H1 : Heap) (locs1 : List Loc) (d1 : Drawn), s.drawn.sameBut d1 lw_cs → post r → va_P D vwCl (W0 ++ w') H1 → va_D A (W0 ++ w') → va_S A s.heap H1 locs1 → W p l e R (s.setDrawn d1) m args below meth c H1 locs1 cells slots Q (F0 m (pc + 3) ls (.double r :: rest))) : W p l e R (s.setDrawn d0) m args below meth c H locs cells slots Q (F0 m pc ls st0) := by
  subst hst hcC
  have hPw := sp_suf hP
  have hN := sp_nod hD
  rw [List.map_append] at hN
  have hNw := (List.nodup_append.mp hN).2.1
  have hF : ∀ q, fr (w.map Prod.fst) q → A q := fun q hq => by
    obtain ⟨x, hx, rfl⟩ := List.mem_map.mp hq
    obtain ⟨k, hk⟩ := List.getElem?_of_mem (List.mem_append_right W0 hx)
    exact hD.2 k x hk
  have hK2 : KK D cI cT (s.setDrawn d0) := hK.draw d0
  refine va_calldD hd0 (va_runV_D (rest := rest) S hM cw ⟨MuP.blind, va_recv hK2.1 hPw hc he, fun U hU hW => ⟨rfl, by rw [hU]; exact hPw, fun k q h => by simp at h, hK2.warm hW, by rw [List.append_nil]; exact hNw⟩⟩ rfl hn hsize rfl (lv_room hW) hdg hf) hS (fun q _ h => hF q h) hF (fun r u t H1 locs1 ht hvm hw hB hz hk hS1 d1 hd1 => ?_)
  rw [ht] at hB
  refine kk r H1 locs1 d1 hd1 hw (va_P.app (sp_pre hP hD (fun q h1 h2 => hk q h1 (fun z => h2 (Or.inl z)))) hB) (sp_Dsame ?_ hD) hS1
  rw [List.map_append, List.map_append, hm]
end SPL
section SPM
variable {p : Program} {l : Launch} {e : Env} {R : Room} {s : State} {m : MethodId} {args : Array Value} {below : List Frame} {meth : Method} {c : Code} {H : Heap} {locs : List Loc} {cells slots : Nat} {Q : State → Prop}
variable {cc : ByteArray} {pc : Nat} {ls : Array Slot} {rest st0 : List Value} {D : va_G} {cI cT : ClassId} {A : Nat → Prop}
variable {y : MethodName} {bytes : ByteArray} {maxL nL n index : Nat} {ret : Option FieldType} {ws Ts : List Cond} {rm : Room} {own C : String} {b : Addr} {As : List Value} {wc rc w1 W0 W1 : va_W}
theorem sp_vL {v : Int64} (S : CallFix p m c cc nL s args Ts own) (hM : MetL l D cI cT y ws rm (.ref b :: As) wc rc w1 v) (cw : CallW R s args own C index y bytes maxL ret ws rm 0 0 n) (hK : KK D cI cT s)
    (hP : va_P D vwCl W0 H) (hD : va_D A W0) (hS : va_S A s.heap H locs) (isC : List Nat) (hC : isC.map (fun i => W0[i]?) = wc.map some) (hPr : va_P D vwCl rc H) (hN : ((wc ++ rc).map Prod.fst).Nodup) (hm : w1.map Prod.fst = wc.map Prod.fst) (hW1 : repl W0 isC w1 = W1) (hm1 : W1.map Prod.fst = W0.map Prod.fst)
    {ci : Nat} {q : vw_C} {fs : List Value} (hc : vwCl[ci]? = some q) (he : wc[0]? = some (b, .inr (ci, fs))) (hcC : q.1 = C) (hn : As.length = n) (hsize : ls.size = nL) (hst : st0 = As.reverse ++ .ref b :: rest) (hW : (rest.map fun v => v.category).sum ≤ 8)
    (hdg : decode cc pc = .ok (.invokevirtual index, 3)) (hf : cells ≤ R.cells ∧ slots ≤ R.slots)
    (kk : ∀ (H1 : Heap) (locs1 : List Loc), va_P D vwCl W1 H1 → va_D A W1 → va_S A s.heap H1 locs1 → W p l e R s m args below meth c H1 locs1 cells slots Q (F0 m (pc + 3) ls (.long v :: rest))) : W p l e R s m args below meth c H locs cells slots Q (F0 m pc ls st0) := by
  subst hst hcC
  have hPc := sp_pick hP isC hC
  refine va_calll (va_runV (rest := rest) S hM cw ⟨MuP.blind, va_recv hK.1 hPc hc he, fun U hU hW => ⟨rfl, by rw [hU]; exact hPc, by rw [hU]; exact hPr, hK.warm hW, hN⟩⟩ rfl hn hsize rfl (lv_room hW) hdg hf) hS (fun q _ h => sp_in hD isC hC q h) (sp_in hD isC hC) (fun z u t H1 locs1 ht hvm hw hB hz hk hS1 => ?_)
  rw [ht] at hB
  subst hw
  exact kk H1 locs1 (sp_after hP hD isC hC hm hW1 hk hB) (sp_Dsame hm1 hD) hS1
theorem sp_vD {post : UInt64 → Prop} {d0 : Drawn} (hd0 : s.drawn.sameBut d0 lw_cs) (S : CallFix p m c cc nL (s.setDrawn d0) args Ts own) (hM : MetDD l D cI cT y ws rm (.ref b :: As) wc rc w1 post) (cw : CallW R (s.setDrawn d0) args own C index y bytes maxL ret ws rm 0 0 n) (hK : KK D cI cT s)
    (hP : va_P D vwCl W0 H) (hD : va_D A W0) (hS : va_S A s.heap H locs) (isC : List Nat) (hC : isC.map (fun i => W0[i]?) = wc.map some) (hPr : va_P D vwCl rc H) (hN : ((wc ++ rc).map Prod.fst).Nodup) (hm : w1.map Prod.fst = wc.map Prod.fst) (hW1 : repl W0 isC w1 = W1) (hm1 : W1.map Prod.fst = W0.map Prod.fst)
    {ci : Nat} {q : vw_C} {fs : List Value} (hc : vwCl[ci]? = some q) (he : wc[0]? = some (b, .inr (ci, fs))) (hcC : q.1 = C) (hn : As.length = n) (hsize : ls.size = nL) (hst : st0 = As.reverse ++ .ref b :: rest) (hW : (rest.map fun v => v.category).sum ≤ 8)
    (hdg : decode cc pc = .ok (.invokevirtual index, 3)) (hf : cells ≤ R.cells ∧ slots ≤ R.slots)
    (kk : ∀ (r : UInt64) (H1 : Heap) (locs1 : List Loc) (d1 : Drawn), s.drawn.sameBut d1 lw_cs → post r → va_P D vwCl W1 H1 → va_D A W1 → va_S A s.heap H1 locs1 → W p l e R (s.setDrawn d1) m args below meth c H1 locs1 cells slots Q (F0 m (pc + 3) ls (.double r :: rest))) : W p l e R (s.setDrawn d0) m args below meth c H locs cells slots Q (F0 m pc ls st0) := by
  subst hst hcC
  have hPc := sp_pick hP isC hC
  have hK2 : KK D cI cT (s.setDrawn d0) := hK.draw d0
  refine va_calldD hd0 (va_runV_D (rest := rest) S hM cw ⟨MuP.blind, va_recv hK2.1 hPc hc he, fun U hU hW => ⟨rfl, by rw [hU]; exact hPc, by rw [hU]; exact hPr, hK2.warm hW, hN⟩⟩ rfl hn hsize rfl (lv_room hW) hdg hf) hS (fun q _ h => sp_in hD isC hC q h) (sp_in hD isC hC) (fun r u t H1 locs1 ht hvm hw hB hz hk hS1 d1 hd1 => ?_)
  rw [ht] at hB
  exact kk r H1 locs1 d1 hd1 hw (sp_after hP hD isC hC hm hW1 hk hB) (sp_Dsame hm1 hD) hS1
end SPM
/-- what holds all through the law's body -/
def LC (p : Program) (l : Launch) (s : State) (m : MethodId) (args : Array Value) (meth : Method) (c : Code) (b L : Nat) (xs : Nat → Int32) (D : va_G) (cI cT cJ : ClassId) : Prop :=
  p.tables.exec = Jvm.exec ∧ c.code = cL_law ∧ c.maxLocals = 9 ∧ s.vm.findClass RL = some m.cls ∧ (∀ w ∈ wsL_law, w.before args s = true) ∧ va_X b L xs s s.heap ∧ b < s.heap.size ∧ KK D cI cT s ∧ va_K D vwCl [(cJ, .long)] s ∧ XS s ∧ XN s ∧ XZ (fun q => s.heap.size ≤ q) s s.heap ∧ l.stackTraces = false
theorem LC.draw {p : Program} {l : Launch} {s : State} {m : MethodId} {args : Array Value} {meth : Method} {c : Code} {b L : Nat} {xs : Nat → Int32} {D : va_G} {cI cT cJ : ClassId} (h : LC p l s m args meth c b L xs D cI cT cJ) (d : Drawn) : LC p l (s.setDrawn d) m args meth c b L xs D cI cT cJ := by
  obtain ⟨hx, hb, hml, hown, hts, hX, hbl, hK, hJ, hXS, hXN, hXZ, hl9⟩ := h
  exact ⟨hx, hb, hml, hown, dr_words hts d, hX, hbl, hK.draw d, hJ, hXS.draw d, hXN, hXZ, hl9⟩
theorem hcode_nz {kc : String → Int32} {res : Int32 ⊕ String} (h : ¬ hcode kc res = 0) : ∃ E, res = .inr E := by
  cases res with
  | inl v => exact absurd rfl h
  | inr E => exact ⟨E, rfl⟩
theorem hcode_z {kc : String → Int32} {res : Int32 ⊕ String} (hkc : ∀ E, ¬ kc E = 0) (h : hcode kc res = 0) : ∃ v, res = .inl v := by
  cases res with
  | inl v => exact ⟨v, rfl⟩
  | inr E => exact absurd h (hkc E)
theorem nz12 : ∀ E, ¬ hc12 E = 0 := fun E => by unfold hc12; split <;> decide
theorem nz1 : ∀ E, ¬ hc1 E = 0 := fun E => by unfold hc1; decide
theorem nz123 : ∀ E, ¬ hc123 E = 0 := fun E => by
  unfold hc123; split
  · decide
  · split <;> decide
theorem nzOA : ∀ E, ¬ hcOA E = 0 := fun E => by unfold hcOA; split <;> decide
theorem ix_in {k j L : Nat} (h : 6 * k + j < L) (hL : L ≤ 3072) : vp_in (nI (6 * k) + nI j) L := by
  rw [nI_add]; exact vp_in_nI h (by omega)
abbrev wRef (cI : ClassId) (mo g0 t0 z0 : Nat) (MF g : Nat → Int32) (tv : Nat → TV) (z : Nat → Int32) : va_W := [(mo, oM MF g0 t0 z0), (g0, aI cI 39 g), (t0, aI cI 174 (tab tv)), (z0, aI cI 174 z)]
abbrev wRace (cI cT : ClassId) (r tr k1 k2 k3 ts : Nat) (ad : Nat → Nat → Nat) (n : Nat) (tick : Int32) (KF S U V : Nat → Int32) (T : Nat → TV) : va_W := [(r, oR tr ts (ad 0 0) (ad 1 0) (nI n) tick), (tr, oK KF k1 k2 k3), (k1, aI cI 12 S), (k2, aI cI 12 U), (k3, aI cI 12 V), (ts, aQ cT 6 (tq ad n))] ++ blks cI ad T (n + 2)
