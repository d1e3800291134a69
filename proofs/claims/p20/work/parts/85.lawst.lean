/-! p20: the law's start: classes, strings, statics -/
theorem st_int {args : Array Value} {s : State} (h : (Cond.arrayClass .int).before args s = true) : ∃ cI : ClassId, ArrOfT s cI .int ∧ va_RA s cI .int := by
  obtain ⟨cA, kA, comp, h1, h2, h3⟩ := Cond.arrayClass_spec h
  exact ⟨cA, fun n z => ⟨fun k h => (by cases h), kA, h2, comp, h3⟩, h1⟩
theorem st_team {args : Array Value} {s : State} (h : (Cond.arrayOver (.object RX0)).before args s = true) : ∃ cT : ClassId, ArrOfT s cT (.object RX0) ∧ va_RA s cT (.object RX0) := by
  obtain ⟨comp, c, kT, h1, h2, h3, h4, h5⟩ := Cond.arrayOver_spec h
  exact ⟨c, fun n z => ⟨fun k h => (by cases h), kT, h3, comp, h4⟩, kT, comp, h3, h4, h1, h5⟩
theorem st_nest : ∀ w ∈ sp_nest, w ∈ lw_tbl := by decide +kernel
theorem st_str : ∀ q ∈ sp_strs, Cond.stringRef RX2 q.1 q.2 ∈ lw_tbl := by decide +kernel
theorem st_exact : ∀ q ∈ sp_strs, Cond.exactly (.string RX2 q.1) "java/lang/String" ∈ flatC (Jvm.Cond.and given_1 narrow_1) := by decide +kernel
theorem st_xdec : ∀ w ∈ xdec, w ∈ lw_tbl := by decide +kernel
theorem st_xdect : ∀ w ∈ xdec, w.onTables = true := by decide
theorem st_ca : ∀ n ∈ [xIAE, xISE, xIOB], Cond.castable n n ∈ lw_tbl := by decide +kernel
theorem st_ls1 : Cond.laysStatic Bundle.tN "UNASSIGNED_STACK" Bundle.steD ∈ lw_tbl := by decide +kernel
theorem st_ls2 : Cond.laysStatic Bundle.tN "SUPPRESSED_SENTINEL" Bundle.listD ∈ lw_tbl := by decide +kernel
theorem st_it : Cond.initialized Bundle.tN ∈ lw_tbl := by decide +kernel
theorem st_ir1 : Cond.isRef (.static Bundle.tN "UNASSIGNED_STACK" Bundle.steD) ∈ flatC (Jvm.Cond.and given_1 narrow_1) := by decide +kernel
theorem st_ir2 : Cond.isRef (.static Bundle.tN "SUPPRESSED_SENTINEL" Bundle.listD) ∈ flatC (Jvm.Cond.and given_1 narrow_1) := by decide +kernel
theorem st_XZ {args : Array Value} {s : State} (hts : ∀ w ∈ lw_tbl, w.before args s = true) (hs : ∀ w ∈ flatC (Jvm.Cond.and given_1 narrow_1), w.before args s = true) : XZ (fun q => s.heap.size ≤ q) s s.heap :=
  ⟨vx_Zqof (hts _ st_ls1) (hts _ st_it) (hs _ st_ir1) (fun a ha => Nat.not_le.mpr ha), vx_Zqof (hts _ st_ls2) (hts _ st_it) (hs _ st_ir2) (fun a ha => Nat.not_le.mpr ha)⟩
theorem st_tq (ad : Nat → Nat → Nat) : tq ad 0 = fun _ => none := by funext t; exact if_neg (Nat.not_lt_zero t)
theorem st_wi : Cond.arrayClass .int ∈ lw_tbl := by decide +kernel
theorem st_wz : Cond.arrayClass .boolean ∈ lw_tbl := by decide +kernel
theorem st_wo : Cond.arrayOver (.object RX0) ∈ lw_tbl := by decide +kernel
theorem st_wl : Cond.arrayOver (.object RX4) ∈ lw_tbl := by decide +kernel
theorem st_wg : Cond.arrayOver (.array .int) ∈ lw_tbl := by decide +kernel
theorem st_i0 : Cond.instantiable RX0 20 ∈ lw_tbl := by decide +kernel
theorem st_i1 : Cond.instantiable RX1 5 ∈ lw_tbl := by decide +kernel
theorem st_i2 : Cond.instantiable RX2 6 ∈ lw_tbl := by decide +kernel
theorem st_i3 : Cond.instantiable RX3 5 ∈ lw_tbl := by decide +kernel
theorem st_i4 : Cond.instantiable RX4 17 ∈ lw_tbl := by decide +kernel
theorem st_n11 : pl_n11 ∈ lw_tbl := by decide +kernel
theorem st_n49 : pl_n49 ∈ lw_tbl := by decide +kernel
theorem st_bool {args : Array Value} {s : State} (h : (Cond.arrayClass .boolean).before args s = true) : ∃ cZ : ClassId, ArrOfT s cZ .boolean ∧ va_RA s cZ .boolean := by
  obtain ⟨cA, kA, comp, h1, h2, h3⟩ := Cond.arrayClass_spec h
  exact ⟨cA, fun n z => ⟨fun k h => (by cases h), kA, h2, comp, h3⟩, h1⟩
theorem st_teamL {args : Array Value} {s : State} (h : (Cond.arrayOver (.object RX4)).before args s = true) : ∃ cL : ClassId, ArrOfT s cL (.object RX4) ∧ va_RA s cL (.object RX4) := by
  obtain ⟨comp, c, kT, h1, h2, h3, h4, h5⟩ := Cond.arrayOver_spec h
  exact ⟨c, fun n z => ⟨fun k h => (by cases h), kT, h3, comp, h4⟩, kT, comp, h3, h4, h1, h5⟩
theorem st_intG {args : Array Value} {s : State} (h : (Cond.arrayClass .int).before args s = true) (hg : (Cond.arrayOver (.array .int)).before args s = true) : ∃ cI cG : ClassId, (ArrOfT s cI .int ∧ va_RA s cI .int) ∧ (ArrOfT s cG (.array .int) ∧ va_RA s cG (.array .int)) ∧ GR cI cG s := by
  obtain ⟨cI, kI, comp, h1, h2, h3⟩ := Cond.arrayClass_spec h
  obtain ⟨comp2, cG, kG, g1, g2, g3, g4, g5⟩ := arrayOverA_spec hg
  have e0 : (FieldType.array FieldType.int).toString = "[" ++ FieldType.int.toString := by decide +kernel
  have e1 : comp2 = cI := by
    rw [e0] at g1
    exact Option.some.inj (g1.symm.trans h1)
  subst e1
  exact ⟨comp2, cG, ⟨fun n z => ⟨fun k h => (by cases h), kI, h2, comp, h3⟩, h1⟩, ⟨fun n z => ⟨fun k h => (by cases h), kG, g3, comp2, g4⟩, g5⟩, kG, kI, g3, g4, h2⟩
theorem st_KX {args : Array Value} {s : State} (hts : ∀ w ∈ lw_tbl, w.before args s = true) : ∃ (D : va_G) (cI cT cL cG cZ : ClassId), KX D cI cT cL cG cZ s := by
  obtain ⟨c0, i0, h0⟩ := u_known (C := RX0) (T := TX0) (N := 20) (n := 20) hts linX0 (hts _ st_i0)
  obtain ⟨c1, i1, h1⟩ := u_known (C := RX1) (T := TX1) (N := 5) (n := 5) hts linX1 (hts _ st_i1)
  obtain ⟨c2, i2, h2⟩ := u_known (C := RX2) (T := TX2) (N := 6) (n := 6) hts linX2 (hts _ st_i2)
  obtain ⟨c3, i3, h3⟩ := u_known (C := RX3) (T := TX3) (N := 5) (n := 5) hts linX3 (hts _ st_i3)
  obtain ⟨c4, i4, h4⟩ := u_known (C := RX4) (T := TX4) (N := 17) (n := 17) hts linX4 (hts _ st_i4)
  obtain ⟨cI, cG, hI, hG, hGR⟩ := st_intG (hts _ st_wi) (hts _ st_wg)
  obtain ⟨cT, hT⟩ := st_team (hts _ st_wo)
  obtain ⟨cL, hL⟩ := st_teamL (hts _ st_wl)
  obtain ⟨cZ, hZ⟩ := st_bool (hts _ st_wz)
  have hC : ∀ (c : Nat) (q : vw_C), vwCl[c]? = some q → u_Kn s q.1 q.2.1 q.2.2 ((fun k => if k = 0 then c0 else if k = 1 then c1 else if k = 2 then c2 else if k = 3 then c3 else c4) c) ((fun k => if k = 0 then i0 else if k = 1 then i1 else if k = 2 then i2 else if k = 3 then i3 else i4) c) := by
    intro k q hq
    match k, hq with
    | 0, hq => cases hq; exact h0
    | 1, hq => cases hq; exact h1
    | 2, hq => cases hq; exact h2
    | 3, hq => cases hq; exact h3
    | 4, hq => cases hq; exact h4
    | k + 5, hq => simp [vwCl] at hq
  refine ⟨(fun k => if k = 0 then c0 else if k = 1 then c1 else if k = 2 then c2 else if k = 3 then c3 else c4, fun k => if k = 0 then i0 else if k = 1 then i1 else if k = 2 then i2 else if k = 3 then i3 else i4), cI, cT, cL, cG, cZ, ⟨⟨hC, ?_⟩, fun w hw => va_Nw.of (sp_nest_tab w hw) (hts w (st_nest w hw))⟩, ⟨hC, ?_⟩, va_AO.of (hts _ st_wl), hts _ st_wg, hGR, va_Nw.of rfl (hts _ st_n11), va_Nw.of rfl (hts _ st_n49)⟩
  · intro k q hq
    match k, hq with
    | 0, hq => cases hq; exact hI
    | 1, hq => cases hq; exact hT
    | k + 2, hq => simp at hq
  · intro k q hq
    match k, hq with
    | 0, hq => cases hq; exact hI
    | 1, hq => cases hq; exact hL
    | 2, hq => cases hq; exact hG
    | 3, hq => cases hq; exact hZ
    | k + 4, hq => simp at hq
theorem st_XS {args : Array Value} {s : State} (hts : ∀ w ∈ lw_tbl, w.before args s = true) (hs : ∀ w ∈ flatC (Jvm.Cond.and given_1 narrow_1), w.before args s = true) : XS s := by
  refine ⟨fun q hq => ?_, va_Nw.of rfl (hts _ (st_ca xIAE (by simp))), va_Nw.of rfl (hts _ (st_ca xISE (by simp))), va_Nw.of rfl (hts _ (st_ca xIOB (by simp))), va_AO.of (hts _ st_wo), fun w hw => va_Nw.of (st_xdect w hw) (hts w (st_xdec w hw))⟩
  obtain ⟨a, c, cell, k, h1, -⟩ := Cond.exactly_spec (hs _ (st_exact q hq))
  exact ⟨a, vk_R.of (hts _ (st_str q hq)) h1⟩
theorem broke_0 {T : Nat → TV} {n : Nat} (h : ∀ t, t < n → (T (t + 2)).1 14 = 0) : ∀ i, i ≤ n → cBroke T i = nI 0
  | 0, _ => rfl
  | i + 1, hi => by
    show cBroke T i + (T (i + 2)).1 14 = _
    rw [broke_0 h i (by omega), h i (by omega)]; rfl
theorem at_0 {cI : ClassId} {f : Nat → Option Nat} {LW : va_W} {T : Nat → TV} {n len : Nat} (x y : Nat × va_E) (hlen : 100 ≤ len ∧ len ≤ 799) (h : ∀ i, i < n → LTs cI f LW T i) : ATx cI f (x :: y :: LW) T n 0 (nI len) ∧ ∀ t, t < n → (T (t + 2)).1 10 = 0 ∧ (T (t + 2)).1 16 = -1 ∧ (T (t + 2)).1 14 = 0 := by
  refine ⟨⟨fun t ht => ?_, fun t ht => (h t ht).rf x y, fun t ht => ?_⟩, fun t ht => ?_⟩
  · obtain ⟨ta, q, ra, q2, ha, q3, ca, lf, F, P, G, ln, w, nr, pu, st, nh, rope, eff, gap, h1, h2, h3, h4, h5, h6, h7, g1, g2, g3, g4, g5, g6, g7, g8, g9⟩ := h t ht
    rw [h7]
    exact team_ti g1 g2 g3 g4 g5 g6 g7 g8 g9 (by rw [nI_toInt (by omega)]; omega)
  · obtain ⟨ta, q, ra, q2, ha, q3, ca, lf, F, P, G, ln, w, nr, pu, st, nh, rope, eff, gap, h1, h2, h3, h4, h5, h6, h7, -⟩ := h t ht
    rw [h7]; rfl
  · obtain ⟨ta, q, ra, q2, ha, q3, ca, lf, F, P, G, ln, w, nr, pu, st, nh, rope, eff, gap, h1, h2, h3, h4, h5, h6, h7, -⟩ := h t ht
    rw [h7]; exact ⟨rfl, rfl, rfl⟩
section SPB2
variable {p : Program} {l : Launch} {e : Env} {R : Room} {s : State} {m : MethodId} {args : Array Value} {below : List Frame} {meth : Method} {c : Code} {H : Heap} {locs : List Loc} {cells slots : Nat} {Q : State → Prop}
variable {cc : ByteArray} {pc : Nat} {ls : Array Slot} {rest st0 : List Value} {D : va_G} {cI cT : ClassId} {A : Nat → Prop}
variable {y : MethodName} {bytes : ByteArray} {maxL nL n index : Nat} {ret : Option FieldType} {ws Ts : List Cond} {rm : Room} {own C : String} {b : Addr} {As : List Value} {wc rc W0 wr : va_W}
/-- a constructor is called that makes a row of teams: it keeps its new cells -/
theorem sp_iB {k mc ms : Nat} {w' : List Nat → va_W} (S : CallFix p m c cc nL s args Ts own) (hM : MetVB l D cI cT y ws rm (.ref b :: As) wc rc w' k mc ms H.size) (cw : CallB R s args own index y bytes maxL none ws rm mc ms n ∧ y.name = "<init>" ∧ (Cond.instanceMethod y).before args s = true) (hAO : va_AO RX0 s) (hK : KK D cI cT s)
    (hP : va_P D vwCl W0 H) (hD : va_D A W0) (hS : va_S A s.heap H locs) (hA : ∀ q, s.heap.size ≤ q → A q) (isC isR : List Nat) (hC : isC.map (fun i => W0[i]?) = wc.map some) (hR : isR.map (fun i => W0[i]?) = wr.map some) (hnd : va_nd isR = true) (hdis : ∀ i ∈ isR, i ∉ isC) (hPr : va_P D vwCl rc H) (hN : ((wc ++ rc).map Prod.fst).Nodup)
    (hn : As.length = n) (hsize : ls.size = nL) (hst : st0 = As.reverse ++ .ref b :: rest) (hW : (rest.map fun v => v.category).sum ≤ 8)
    (hdg : decode cc pc = .ok (.invokespecial index, 3)) (hf : cells + mc ≤ R.cells ∧ slots + ms ≤ R.slots)
    (kk : ∀ (u : List Nat) (H1 : Heap) (locs1 : List Loc), u.length = k → va_P D vwCl (wr ++ w' u) H1 → va_D A (wr ++ w' u) → va_S A s.heap H1 locs1 → W p l e R s m args below meth c H1 locs1 (cells + mc) (slots + ms) Q (F0 m (pc + 3) ls rest)) : W p l e R s m args below meth c H locs cells slots Q (F0 m pc ls st0) := by
  subst hst
  have hPc := sp_pick hP isC hC
  have hF := va_free hD hS hA isC hC
  refine va_callv (va_runI (rest := rest) S hM cw ⟨fun a U g mk h => ⟨MaP.blind a U g mk h.1, va_AO.moved (u := U) (U := U.calling g mk a) (Vm.Alike.refl U.vm) h.2⟩, fun U hU hW => ⟨⟨rfl, by rw [hU], by rw [hU]; exact hPc, by rw [hU]; exact hPr, hK.warm hW, hN⟩, va_AO.moved hW.alike hAO⟩⟩ rfl hn hsize rfl (lv_room hW) hdg hf) hS (fun q _ h => hF q (A_frA h)) (fun q h => hF q (A_frA h)) (fun u t H1 locs1 ht hvm hw hB hz hk hS1 => ?_)
  rw [ht] at hB
  obtain ⟨hP2, hD2⟩ := hB
  obtain ⟨hP3, hD3⟩ := va_join hP hD isC isR hC hR hnd hdis (fun q h1 h2 => hk q h1 (fun z => h2 (A_frA z))) hF hP2 (hD2.weaken (fun _ _ _ z => A_frA z))
  exact kk u H1 locs1 hw hP3 hD3 hS1
end SPB2
