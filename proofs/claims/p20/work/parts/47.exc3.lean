/-! Calls of methods that return or throw -/
theorem isIn_lt {i b : Nat} (hb : b < 1000000) (h : i < b) : isIn (nI i) 0 (nI b - 1) = true := by
  obtain ⟨k, rfl⟩ : ∃ k, b = k + 1 := ⟨b - 1, by omega⟩
  rw [nI_pred]
  exact decide_eq_true ⟨nI_pos (by omega), fun z => absurd ((nI_ltI (by omega) (by omega)).mp z) (by omega)⟩
theorem isIn_ge {i b : Nat} (hb : b < 1000000) (hi : i < 1000000) (h : b ≤ i) : isIn (nI i) 0 (nI b - 1) = false := by
  cases q : isIn (nI i) 0 (nI b - 1) with
  | false => rfl
  | true =>
    obtain ⟨j, hj, e⟩ := isIn_nat hb q
    have e2 := congrArg Int32.toNatClampNeg e
    rw [nI_clamp (by omega), nI_clamp (by omega)] at e2
    omega
theorem isIn_neg {x b : Int32} (h : x < 0) : isIn x 0 b = false := decide_eq_false (fun z => z.1 h)
theorem isIn_big {x : Int32} {n b : Nat} (hn : n ≤ b) (hb : b < 1000000) (h : ¬ x < nI b) : isIn x 0 (nI n - 1) = false := by
  cases q : isIn x 0 (nI n - 1) with
  | false => rfl
  | true =>
    obtain ⟨j, hj, e⟩ := isIn_nat (by omega) q
    subst e
    exact absurd ((nI_ltI (by omega) (by omega)).mpr (by omega)) h
theorem nat_of {x : Int32} {b : Nat} (hb : b < 1000000) (h0 : ¬ x < 0) (h1 : x < nI b) : ∃ i : Nat, i < b ∧ x = nI i := by
  rcases pk_ix x (n := b) (by omega) with q | q | q
  · exact absurd q h0
  · exact absurd q (Int32.not_le.mpr h1)
  · exact q
def cStartR (tick : Int32) : Option String := if tick = 0 then none else some xISE
def cTeamR (ad : Nat → Nat → Nat) (n : Nat) (x : Int32) : Nat ⊕ String := if isIn x 0 (nI n - 1) = true then .inl (ad (x.toNatClampNeg + 2) 0) else .inr xIOB
theorem startR_none {tick : Int32} (h : cStartR tick = none) : tick = 0 := by
  unfold cStartR at h
  split at h
  · assumption
  · cases h
theorem startR_some {tick : Int32} {E : String} (h : cStartR tick = some E) : ¬ tick = 0 ∧ E = xISE := by
  unfold cStartR at h
  split at h
  · cases h
  · exact ⟨by assumption, (Option.some.inj h).symm⟩
theorem teamR_inl {ad : Nat → Nat → Nat} {n q : Nat} {x : Int32} (hn : n ≤ 6) (h : cTeamR ad n x = .inl q) : ∃ i, i < n ∧ x = nI i ∧ q = ad (i + 2) 0 := by
  unfold cTeamR at h
  split at h
  · rename_i h1
    obtain ⟨i, hi, rfl⟩ := isIn_nat (by omega) h1
    rw [nI_clamp (by omega)] at h
    exact ⟨i, hi, rfl, (Sum.inl.inj h).symm⟩
  · cases h
theorem teamR_inr {ad : Nat → Nat → Nat} {n : Nat} {x : Int32} {E : String} (h : cTeamR ad n x = .inr E) : isIn x 0 (nI n - 1) = false ∧ E = xIOB := by
  unfold cTeamR at h
  split at h
  · cases h
  · rename_i h1
    exact ⟨by simpa using h1, (Sum.inr.inj h).symm⟩
section SPY
variable {p : Program} {l : Launch} {e : Env} {R : Room} {s : State} {m : MethodId} {args : Array Value} {below : List Frame} {meth : Method} {c : Code} {H : Heap} {locs : List Loc} {cells slots : Nat} {Q : State → Prop}
variable {cc : ByteArray} {pc : Nat} {ls : Array Slot} {rest st0 : List Value} {D : va_G} {cI cT : ClassId} {A : Nat → Prop} {Qc : Array Value → State → Outcome → State → Prop}
variable {y : MethodName} {bytes : ByteArray} {maxL nL n index : Nat} {ret : Option FieldType} {ws Ts : List Cond} {rm : Room} {own C : String} {b : Addr} {As : List Value} {W0 W1 : va_W}
theorem frA_in {w : va_W} {H0 : Heap} (hD : va_D A w) (hS : va_S A H0 H locs) (hA : ∀ q, H0.size ≤ q → A q) : ∀ q, frA (w.map Prod.fst) H.size q → A q := by
  intro q hq
  rcases hq with hq | hq
  · obtain ⟨x, hx, rfl⟩ := List.mem_map.mp hq
    obtain ⟨k, hk⟩ := List.getElem?_of_mem hx
    exact hD.2 k x hk
  · exact hA q (Nat.le_trans hS.1 hq)
/-- what a callee threw goes on to the caller -/
theorem sp_pass {w : va_W} {res : String → Prop} {E : String} {ce : Cell} {q : Addr} {mc ms : Nat} (hout : ∀ x ∈ c.exceptionTable.toList, False) (hlocks : meth.locks = false) (hcell : H[q]? = some ce) (hv : ce.vm = .none) (hcl : s.vm.findClass E = some ce.cls)
    (hE : res E) (hP : va_P D vwCl w H) (hS : va_S A s.heap H locs) (hc : cells ≤ mc) (hs : slots ≤ ms) : vx_W p l e R s m args below meth c H locs cells slots (vx_MQ below Qc (XO D w res A) args s mc ms A) (F0 m pc ls rest) q :=
  vx_out (fun x hx => absurd (hout x hx) id) hlocks hcell hv hcl (fun t ht ha => ⟨(), trivial, ⟨hE, by rw [ht]; exact hP⟩, by rw [ht]; exact hS.1, fun q h1 h2 => by rw [ht]; exact hS.2.1 q h1 h2⟩) hS.2.2 hc hs
theorem sp_mx {w : va_W} {As : List Value} (hK : KK D cI cT s) (hXZ : XZ A s s.heap) (hXS : XS s) (hP : va_P D vwCl w H) (hD : va_D A w) (hS : va_S A s.heap H locs) (hA : ∀ q, s.heap.size ≤ q → A q) : ∀ U : State, U.heap = H → s.WarmedH U.vm → MxP D cI cT (.ref b :: As) w H.size (Value.ref b :: As).toArray U :=
  fun U hU hW => ⟨⟨rfl, by rw [hU], by rw [hU]; exact hP, fun k q h => by simp at h, hK.warm hW, sp_nod2 hD⟩, hXZ.at hS (frA_in hD hS hA) hU hW, hXS.warm hW⟩
theorem sp_oV {res : Option String} {rs : String → Prop} {mc ms MC MS : Nat} {w : va_W} (S : CallFix p m c cc nL s args Ts own) (hM : MetOV l D cI cT y ws rm (.ref b :: As) W0 W1 res mc ms H.size) (cw : CallW R s args own C index y bytes maxL ret ws rm mc ms n) (hK : KK D cI cT s)
    (hXZ : XZ A s s.heap) (hXS : XS s) (hP : va_P D vwCl W0 H) (hD : va_D A W0) (hS : va_S A s.heap H locs) (hA : ∀ q, s.heap.size ≤ q → A q) (hm : W1.map Prod.fst = W0.map Prod.fst)
    {ci : Nat} {q : vw_C} {fs : List Value} (hc : vwCl[ci]? = some q) (he : W0[0]? = some (b, .inr (ci, fs))) (hcC : q.1 = C) (hn : As.length = n) (hsize : ls.size = nL) (hst : st0 = As.reverse ++ .ref b :: rest) (hW : (rest.map fun v => v.category).sum ≤ 8)
    (hdg : decode cc pc = .ok (.invokevirtual index, 3)) (hf : cells + mc ≤ R.cells ∧ slots + ms ≤ R.slots)
    (hout : ∀ x ∈ c.exceptionTable.toList, False) (hlocks : meth.locks = false) (hww : W0 = w) (hE : ∀ E, res = some E → rs E) (hcc : cells + mc ≤ MC) (hss : slots + ms ≤ MS) (hQ : Q = vx_MQ below Qc (XO D w rs A) args s MC MS A)
    (kk : ∀ (H1 : Heap) (locs1 : List Loc), res = none → va_P D vwCl W1 H1 → va_D A W1 → va_S A s.heap H1 locs1 → W p l e R s m args below meth c H1 locs1 (cells + mc) (slots + ms) Q (F0 m (pc + 3) ls rest)) : W p l e R s m args below meth c H locs cells slots Q (F0 m pc ls st0) := by
  subst hQ hst hcC hww
  have hF := frA_in hD hS hA
  refine vx_callv (vx_runV (rest := rest) S hM cw ⟨MxP.blind, va_recv hK.1 hP hc he, sp_mx hK hXZ hXS hP hD hS hA⟩ rfl hn hsize rfl (lv_room hW) hdg hf) hS (fun q _ h => hF q h) hF (fun q _ h => hF q h) (fun E ce q9 u t H1 locs1 ht hvm hu hB hz hk hS1 h1 h2 h3 => ?_) (fun u t H1 locs1 ht hvm hw hB hz hk hS1 => ?_)
  · rw [ht] at hB
    exact sp_pass hout hlocks h1 h2 h3 (hE E hB.1) hB.2 hS1 hcc hss
  · rw [ht] at hB
    exact kk H1 locs1 hw hB (sp_Dsame hm hD) hS1
theorem sp_oR {res : Nat ⊕ String} {rs : String → Prop} {mc ms MC MS : Nat} {w : va_W} (S : CallFix p m c cc nL s args Ts own) (hM : MetOR l D cI cT y ws rm (.ref b :: As) W0 W1 res mc ms H.size) (cw : CallW R s args own C index y bytes maxL ret ws rm mc ms n) (hK : KK D cI cT s)
    (hXZ : XZ A s s.heap) (hXS : XS s) (hP : va_P D vwCl W0 H) (hD : va_D A W0) (hS : va_S A s.heap H locs) (hA : ∀ q, s.heap.size ≤ q → A q) (hm : W1.map Prod.fst = W0.map Prod.fst)
    {ci : Nat} {q : vw_C} {fs : List Value} (hc : vwCl[ci]? = some q) (he : W0[0]? = some (b, .inr (ci, fs))) (hcC : q.1 = C) (hn : As.length = n) (hsize : ls.size = nL) (hst : st0 = As.reverse ++ .ref b :: rest) (hW : (rest.map fun v => v.category).sum ≤ 8)
    (hdg : decode cc pc = .ok (.invokevirtual index, 3)) (hf : cells + mc ≤ R.cells ∧ slots + ms ≤ R.slots)
    (hout : ∀ x ∈ c.exceptionTable.toList, False) (hlocks : meth.locks = false) (hww : W0 = w) (hE : ∀ E, res = .inr E → rs E) (hcc : cells + mc ≤ MC) (hss : slots + ms ≤ MS) (hQ : Q = vx_MQ below Qc (XO D w rs A) args s MC MS A)
    (kk : ∀ (ra : Nat) (H1 : Heap) (locs1 : List Loc), res = .inl ra → va_P D vwCl W1 H1 → va_D A W1 → va_S A s.heap H1 locs1 → W p l e R s m args below meth c H1 locs1 (cells + mc) (slots + ms) Q (F0 m (pc + 3) ls (.ref ra :: rest))) : W p l e R s m args below meth c H locs cells slots Q (F0 m pc ls st0) := by
  subst hQ hst hcC hww
  have hF := frA_in hD hS hA
  intro T hT X
  rcases vx_runV (rest := rest) (g := F0 m pc ls (As.reverse ++ .ref b :: rest)) S hM cw ⟨MxP.blind, va_recv hK.1 hP hc he, sp_mx hK hXZ hXS hP hD hS hA⟩ rfl hn hsize rfl (lv_room hW) hdg hf T hT X with ⟨v, st₀, t, T', L, h0, X', hL, e1, e2, ⟨⟨u, ra, hv, hp, hb⟩, hFr⟩, st⟩ | ⟨q, st₀, t, T', L, E, ce, h0, X', hL, e1, e2, ⟨u, hp, hb, hFr⟩, hce, hcv, hcl, st⟩
  · cases hv
    obtain ⟨k1, k2, k3⟩ := vx_keep h0 e1 hS (fun q _ h => hF q h) hF hL hFr
    obtain ⟨t2, a1, b1⟩ := kk ra T'.heap (locs ++ L) hb.1 (by rw [e1]; exact hb.2) (sp_Dsame hm hD) k3 T' rfl X'
    exact ⟨t2, st t2 a1, b1⟩
  · obtain ⟨k1, k2, k3⟩ := vx_keep h0 e1 hS (fun q _ h => hF q h) hF hL hFr
    obtain ⟨t2, a1, b1⟩ := sp_pass (p := p) (l := l) (e := e) (R := R) (args := args) (below := below) (pc := pc) (ls := ls) (rest := rest) hout hlocks (by rw [e1]; exact hce) hcv hcl (hE E hb.1) (by rw [e1]; exact hb.2) k3 hcc hss T' rfl X'
    exact ⟨t2, st.trans a1, b1⟩
end SPY
