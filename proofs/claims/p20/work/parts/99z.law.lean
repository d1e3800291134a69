/-! THE CLAIM OUT OF ONE WALK OF THE LAW'S BODY. Your part is whole_start (and what it stands on); all else here is the same for every law, but numbers. -/
def R_law : String := "SledgeRaceLaw"
def lw_P (b : Addr) (xs : List Int32) (args : Array Value) (s : State) : Prop := args = #[.ref b] ∧ s.IntsAt b xs ∧ xs.length ≤ 260 ∧ (Jvm.Cond.and given_1 narrow_1).before args s = true
/-- what a walk over the start with the record d0 says of its end, said of the start itself -/
theorem lw_closed {s t : State} {o : Outcome} {d0 : Drawn} {L : List Loc} {k n : Nat} (hd0 : s.drawn.sameBut d0 lw_cs) (hv : ∃ v, o = .returned v) (hW : (s.setDrawn d0).WarmedH t.vm) (hs : (s.setDrawn d0).sameButNew ({ t with vm := s.vm } : State) L k n) : State.butDraws s t lw_cs (fun t1 => Framed s o t1 L k n) := by
  have h2 : t.drawn = d0 := congrArg State.drawn hs.1
  refine ⟨⟨hv, hW, State.sameButNew.setDrawn hs s.drawn⟩, ?_, by decide⟩
  rw [h2]
  exact hd0
def lw_Q (_ : Array Value) (s : State) (o : Outcome) (t : State) : Prop := o = .returned (some (.int 1)) ∧ State.butDraws s t lw_cs (fun t1 => Framed s o t1 [] 600086 7301442)
def lw_Z (below : List Frame) (a : Array Value) (s : State) : State → Prop := fun t => ∃ o, t.status = .running ∧ Ended t below o ∧ lw_Q a s o t
/-- the law's own end, with 1 on the stack, nothing written that was there before, its room as the claim has it; d0: the record of draws at this point (at the entry s.drawn: begin with 'refine W.base ?_' and 'have hd0 := Drawn.sameBut.refl s.drawn lw_cs') -/
theorem lw_ret {p : Program} {l : Launch} {e : Env} {s : State} {m : MethodId} {below : List Frame} {meth : Method} {c : Code} {b : Nat} {d0 : Drawn} (hd0 : s.drawn.sameBut d0 lw_cs) (hx : p.tables.exec = Jvm.exec) (hb : c.code = code) (hr : meth.sig.returnType = ret) (hlocks : meth.locks = false) {pc : Nat} {H : Heap} {ls : Array Slot} (hdg : decode code pc = .ok (.ireturn, 1)) : W p l e room_1 (s.setDrawn d0) m #[Value.ref b] below meth c H [] 600086 7301442 (lw_Z below #[Value.ref b] s) (F0 m pc ls [.int 1]) := by
  intro T hT X
  obtain ⟨fs, hret, hrun, hended, hW, hframe⟩ := X.leave (v := some (.int 1)) (hlocks := hlocks) (fun h => by rw [hr] at h; cases h)
  have hmeth' : T.vm.method? m = some meth := X.method'
  refine ⟨T.setFrames fs, ?_, .returned (some (.int 1)), hrun, hended, rfl, lw_closed hd0 ⟨_, rfl⟩ hW hframe⟩
  jvm_step X.here [X.here.top, hx, hb, hdg, hmeth', hr, ret, narrow_b1]
  (try refine ⟨rfl, ?_⟩); (try refine ⟨rfl, ?_⟩)
  first | (intro acts; rw [hret _ acts rfl rfl rfl]) | rw [hret _ _ rfl rfl rfl]
  exact Steps.refl _
/-- what holds at the law's entry: the machine, the code, the tables' words (any of lw_tbl by 'hts w (by decide +kernel)'), the script of L ints xs at the cell b, what the Statement gives of the start (any of its parts by flat_of_before) -/
def lw_At (p : Program) (s : State) (m : MethodId) (meth : Method) (c : Code) (b L : Nat) (xs : Nat → Int32) : Prop :=
  p.tables.exec = Jvm.exec ∧ c.code = code ∧ meth.sig.returnType = ret ∧ c.maxLocals = 22 ∧ s.vm.findClass R_law = some m.cls ∧ (∀ w ∈ lw_tbl, w.before #[Value.ref b] s = true) ∧ va_X b L xs s s.heap ∧ b < s.heap.size ∧ meth.locks = false ∧ (Jvm.Cond.and given_1 narrow_1).before #[Value.ref b] s = true
set_option maxHeartbeats 8000000 in
set_option maxRecDepth 100000 in
/-- the law, from its entry -/
theorem whole_start {p : Program} {e : Env} {s : State} {m : MethodId} {below : List Frame} {meth : Method} {c : Code} (l : Launch) (hflags : l.flags = flags0) {b L : Nat} {xs : Nat → Int32} (hL : L ≤ 260) (C0 : lw_At p s m meth c b L xs) : W p l e room_1 s m #[Value.ref b] below meth c s.heap [] 0 0 (lw_Z below #[Value.ref b] s) (entryFrame m ([Value.ref b] : List Value).toArray 22) := by
  obtain ⟨hx, hb, hr, hml, hown0, hts0, hXs, hbl, hlocks, hgv⟩ := id C0
  have hown : s.vm.findClass RL = some m.cls := hown0
  have hs := flat_of_before _ hgv
  have hl9 : l.stackTraces = false := by rw [Launch.stackTraces, hflags]; decide +kernel
  have hts : ∀ w ∈ wsL_law, w.before #[Value.ref b] s = true := fun w h => hts0 w (lin_law w h)
  obtain ⟨D, cI, cT, cL, cG, cZ, hX⟩ := st_KX hts0
  have hXS := st_XS hts0 hs
  have hXZ := st_XZ hts0 hs
  have hK := hX.1
  have hA : ∀ q : Nat, s.heap.size ≤ q → (fun q : Nat => s.heap.size ≤ q) q := fun _ h => h
  have hbA : ¬ (fun q : Nat => s.heap.size ≤ q) b := Nat.not_le.mpr hbl
  have hS : va_S (fun q : Nat => s.heap.size ≤ q) s.heap s.heap [] := va_S.rf
  have hP : va_P D vwCl [] s.heap := fun k q h => by simp at h
  have hD : va_D (fun q : Nat => s.heap.size ≤ q) [] := ⟨fun i j p q h => by simp at h, fun k q h => by simp at h⟩
  have hl := lv_entry ([.ref b]) (n := 22) (Nat.le_of_ble_eq_true rfl)
  rw [lg_entry_eq]
  generalize (lg_sl ([.ref b]) ++ List.replicate (22 - (lg_sl ([.ref b])).length) Slot.unset).toArray = ls at hl ⊢
  have hl : lv_has ls 22 [(0, .ref b)] := hl
  refine va_new (ci := 2) (fs := [.null, .null, .null, .null, .int 0, .int 0]) (C := RX2) (T := TX2) (N := 6) hx hb hts (fun w h => inlX2 w h) tyX2 tyX2_ok hown (hts (.classLink RL 27 RX2) (by decide +kernel)) (hts (.instantiable RX2 6) (by decide +kernel)) (hts (.initialized RX2) (by decide +kernel)) hK.1 hP hD hS hA rfl (fun j hj => match j, hj with | 0, _ => rfl | 1, _ => rfl | 2, _ => rfl | 3, _ => rfl | 4, _ => rfl | 5, _ => rfl | _ + 6, h => absurd h (by omega)) (Nat.le_of_ble_eq_true rfl) (Nat.le_of_ble_eq_true rfl) dL_law_0 (fun r H hP hD hS => ?_)
  have hP : va_P D vwCl [(r, oRn .null .null .null .null 0 0)] H := hP
  have hD : va_D (fun q : Nat => s.heap.size ≤ q) [(r, oRn .null .null .null .null 0 0)] := hD
  refine lv_dup hx hb dL_law_3 rfl ?_
  refine sp_iB (rest := [.ref r]) (As := []) (wr := []) ⟨hx, hb, hml, hown, hts⟩ (mX2_init l D cI cT H.size r) (cwI 0 hts gL_law_X2_init rfl rfl rfl (hts (.initialized RX2) (by decide +kernel)) (hts (.methodLink RL 94 yX2_init) (by decide +kernel)) (hts (.instanceMethod yX2_init) (by decide +kernel)) rfl (by decide +kernel) ⟨Nat.le_of_ble_eq_true rfl, Nat.le_of_ble_eq_true rfl⟩) hXS.2.2.2.2.1 hK hP hD hS hA [0] [] rfl rfl (by decide) (by decide) (fun k q h => by simp at h) (by simp) rfl hl.1 rfl (Nat.le_of_ble_eq_true rfl) dL_law_4 ⟨Nat.le_of_ble_eq_true rfl, Nat.le_of_ble_eq_true rfl⟩ (fun u H locs hu hP hD hS => ?_)
  have hP : va_P D vwCl [(r, oR (u.getD 0 0) (u.getD 4 0) (u.getD 5 0) (u.getD 9 0) 0 0), ((u.getD 0 0), oK cTrackF (u.getD 1 0) (u.getD 2 0) (u.getD 3 0)), ((u.getD 1 0), aI cI 12 (fun _ => 0)), ((u.getD 2 0), aI cI 12 (fun _ => 0)), ((u.getD 3 0), aI cI 12 (upd (fun _ => 0) 0 2)), ((u.getD 4 0), aQ cT 6 (fun _ => none)), ((u.getD 5 0), oT (cStartF (cNewF 0 20 10 2)) (u.getD 6 0) (u.getD 7 0) (u.getD 8 0)), ((u.getD 6 0), aI cI 8 (cStartP (cNewF 0 20 10 2) (fun _ => 0) 2 2)), ((u.getD 7 0), aI cI 3 (cFill (fun _ => 0) (-1) 3)), ((u.getD 8 0), aI cI 3 (cFill (fun _ => 0) 0 3)), ((u.getD 9 0), oT (cStartF (cNewF 0 20 10 2)) (u.getD 10 0) (u.getD 11 0) (u.getD 12 0)), ((u.getD 10 0), aI cI 8 (cStartP (cNewF 0 20 10 2) (fun _ => 0) 2 2)), ((u.getD 11 0), aI cI 3 (cFill (fun _ => 0) (-1) 3)), ((u.getD 12 0), aI cI 3 (cFill (fun _ => 0) 0 3))] H := hP
  have hD : va_D (fun q : Nat => s.heap.size ≤ q) [(r, oR (u.getD 0 0) (u.getD 4 0) (u.getD 5 0) (u.getD 9 0) 0 0), ((u.getD 0 0), oK cTrackF (u.getD 1 0) (u.getD 2 0) (u.getD 3 0)), ((u.getD 1 0), aI cI 12 (fun _ => 0)), ((u.getD 2 0), aI cI 12 (fun _ => 0)), ((u.getD 3 0), aI cI 12 (upd (fun _ => 0) 0 2)), ((u.getD 4 0), aQ cT 6 (fun _ => none)), ((u.getD 5 0), oT (cStartF (cNewF 0 20 10 2)) (u.getD 6 0) (u.getD 7 0) (u.getD 8 0)), ((u.getD 6 0), aI cI 8 (cStartP (cNewF 0 20 10 2) (fun _ => 0) 2 2)), ((u.getD 7 0), aI cI 3 (cFill (fun _ => 0) (-1) 3)), ((u.getD 8 0), aI cI 3 (cFill (fun _ => 0) 0 3)), ((u.getD 9 0), oT (cStartF (cNewF 0 20 10 2)) (u.getD 10 0) (u.getD 11 0) (u.getD 12 0)), ((u.getD 10 0), aI cI 8 (cStartP (cNewF 0 20 10 2) (fun _ => 0) 2 2)), ((u.getD 11 0), aI cI 3 (cFill (fun _ => 0) (-1) 3)), ((u.getD 12 0), aI cI 3 (cFill (fun _ => 0) 0 3))] := hD
  refine lv_astore_n (lv' := [(1, .ref r), (0, .ref b)]) hx hb dL_law_7 rfl hl (by decide) rfl (fun ls hl => ?_)
  obtain ⟨ad, had⟩ : ∃ ad : Nat → Nat → Nat, ad = fun b j => u.getD (5 + 4 * b + j) 0 := ⟨_, rfl⟩
  obtain ⟨T, hT⟩ : ∃ T : Nat → TV, T = fun _ => ((cStartF (cNewF 0 20 10 2)), (cStartP (cNewF 0 20 10 2) (fun _ => 0) 2 2), (cFill (fun _ => 0) (-1) 3), (cFill (fun _ => 0) 0 3)) := ⟨_, rfl⟩
  have hW : wRace cI cT r (u.getD 0 0) (u.getD 1 0) (u.getD 2 0) (u.getD 3 0) (u.getD 4 0) ad 0 0 cTrackF (fun _ => 0) (fun _ => 0) (upd (fun _ => 0) 0 2) T = [(r, oR (u.getD 0 0) (u.getD 4 0) (u.getD 5 0) (u.getD 9 0) 0 0), ((u.getD 0 0), oK cTrackF (u.getD 1 0) (u.getD 2 0) (u.getD 3 0)), ((u.getD 1 0), aI cI 12 (fun _ => 0)), ((u.getD 2 0), aI cI 12 (fun _ => 0)), ((u.getD 3 0), aI cI 12 (upd (fun _ => 0) 0 2)), ((u.getD 4 0), aQ cT 6 (fun _ => none)), ((u.getD 5 0), oT (cStartF (cNewF 0 20 10 2)) (u.getD 6 0) (u.getD 7 0) (u.getD 8 0)), ((u.getD 6 0), aI cI 8 (cStartP (cNewF 0 20 10 2) (fun _ => 0) 2 2)), ((u.getD 7 0), aI cI 3 (cFill (fun _ => 0) (-1) 3)), ((u.getD 8 0), aI cI 3 (cFill (fun _ => 0) 0 3)), ((u.getD 9 0), oT (cStartF (cNewF 0 20 10 2)) (u.getD 10 0) (u.getD 11 0) (u.getD 12 0)), ((u.getD 10 0), aI cI 8 (cStartP (cNewF 0 20 10 2) (fun _ => 0) 2 2)), ((u.getD 11 0), aI cI 3 (cFill (fun _ => 0) (-1) 3)), ((u.getD 12 0), aI cI 3 (cFill (fun _ => 0) 0 3))] := by
    unfold wRace
    rw [st_tq, had, hT]
    rfl
  have hP : va_P D vwCl (wRace cI cT r (u.getD 0 0) (u.getD 1 0) (u.getD 2 0) (u.getD 3 0) (u.getD 4 0) ad 0 0 cTrackF (fun _ => 0) (fun _ => 0) (upd (fun _ => 0) 0 2) T) H := by rw [hW]; exact hP
  have hD : va_D (fun q : Nat => s.heap.size ≤ q) (wRace cI cT r (u.getD 0 0) (u.getD 1 0) (u.getD 2 0) (u.getD 3 0) (u.getD 4 0) ad 0 0 cTrackF (fun _ => 0) (fun _ => 0) (upd (fun _ => 0) 0 2) T) := by rw [hW]; exact hD
  refine lv_aload_n hx hb dL_law_8 rfl (lv_at hl 0 rfl) ?_
  refine lv_aload_n hx hb dL_law_9 rfl (lv_at hl 1 rfl) ?_
  refine pl_bu (w := wRace cI cT r (u.getD 0 0) (u.getD 1 0) (u.getD 2 0) (u.getD 3 0) (u.getD 4 0) ad 0 0 cTrackF (fun _ => 0) (fun _ => 0) (upd (fun _ => 0) 0 2) T) (rest := []) (As := [.ref r, .ref b]) (BQ := fun ra W' => BuQ cI cT cL r (u.getD 0 0) (u.getD 1 0) (u.getD 2 0) (u.getD 3 0) (u.getD 4 0) ra W') ⟨hx, hb, hml, hown, hts⟩ (mL_build l D cI cT cL cG cZ hl9 H.size r (u.getD 0 0) (u.getD 1 0) (u.getD 2 0) (u.getD 3 0) (u.getD 4 0) b L ad T xs hL) (va_cwS 2 hts gL_law_L_build rfl rfl rfl (by decide +kernel) ⟨Nat.le_of_ble_eq_true rfl, Nat.le_of_ble_eq_true rfl⟩) hX hXZ hXS hXs hbl hbA hP hD hS hA rfl hl.1 rfl (Nat.le_of_ble_eq_true rfl) dL_law_10 ⟨Nat.le_of_ble_eq_true rfl, Nat.le_of_ble_eq_true rfl⟩ (fun sm W' H locs hBQ hP hD hS => ?_)
  obtain ⟨tt, n, ns, len, g9, f, LW0, ad2, KF, S, U, V, T2, hWe, hn, hlen, hKF4, hTk, hLT⟩ := hBQ
  subst hWe
  obtain ⟨LW, hLW⟩ : ∃ z, z = (sm, oSv 0 (nI len) 0 g9 (.ref tt)) :: (tt, aQ cL n f) :: LW0 := ⟨_, rfl⟩
  have ha0 := at_0 (cI := cI) (f := f) (LW := LW0) (T := T2) (n := n) (sm, oSv 0 (nI len) 0 g9 (.ref tt)) (tt, aQ cL n f) hlen hLT
  rw [← hLW] at ha0
  obtain ⟨hAT, h0s⟩ := ha0
  have hP : va_P D vwCl (LW ++ wRace cI cT r (u.getD 0 0) (u.getD 1 0) (u.getD 2 0) (u.getD 3 0) (u.getD 4 0) ad2 n (nI 0) KF S U V T2) H := by rw [hLW]; exact hP
  have hD : va_D (fun q : Nat => s.heap.size ≤ q) (LW ++ wRace cI cT r (u.getD 0 0) (u.getD 1 0) (u.getD 2 0) (u.getD 3 0) (u.getD 4 0) ad2 n (nI 0) KF S U V T2) := by rw [hLW]; exact hD
  have hSM : LW[0]? = some (sm, oSv 0 (nI len) 0 g9 (.ref tt)) := by rw [hLW]; rfl
  have hTT : LW[1]? = some (tt, aQ cL n f) := by rw [hLW]; rfl
  have Y : LYx cL LW sm tt f n ns KF U V len := ⟨hn, hTk, hKF4, hlen.2, ⟨0, g9, hSM⟩, 1, hTT⟩
  have C : LX p l s m #[Value.ref b] c D cI cT cL cG cZ := ⟨hx, hb, hml, hown, hts, hX, hXS, hXZ, hl9⟩
  have hiX3 : ∀ w ∈ u_ws RX3 TX3 5, w ∈ wsL_law := inlX3
  obtain ⟨hn1, hn4⟩ := id hn
  refine lv_astore_n (lv' := [(2, .ref sm), (1, .ref r), (0, .ref b)]) hx hb dL_law_13 rfl hl (by decide) rfl (fun ls hl => ?_)
  refine lv_aload_n hx hb dL_law_14 rfl (lv_at hl 0 rfl) ?_
  refine lv_ifnonnull (tgt := 20) hx hb dL_law_15 (by decide) ?_
  refine lv_aload_n hx hb dL_law_20 rfl (lv_at hl 0 rfl) ?_
  refine va_get (D := D) (ci := 3) (v := .ref tt) (C := RX3) (T := TX3) (N := 5) hx hb hts hiX3 hown hX.2.1 hP 0 (pl_at hSM) rfl 4 (by decide) (hts (.fieldLink RL 45 "SledgeRaceLaw$Sim" "teams" "[LSledgeRaceLaw$Team;") (by decide +kernel)) (fun _ h9 => h9) rfl dL_law_21 ?_
  refine va_alen hx hb hX.2.1 hP 1 1 (pl_at hTT) rfl (v := nI n) rfl dL_law_24 ?_
  refine lv_istore_n (lv' := [(3, .int (nI n)), (2, .ref sm), (1, .ref r), (0, .ref b)]) hx hb dL_law_25 rfl hl (by decide) rfl (fun ls hl => ?_)
  refine lv_iload_n hx hb dL_law_26 rfl (lv_at hl 0 rfl) ?_
  refine pl_newi hx hb (hts (.arrayClass .int) (by decide +kernel)) hK hP hD hS hA n rfl (by omega) (show 0 + 1 + 13 + 200 + 1 ≤ 600086 by omega) (show 0 + 6 + 115 + 2000 + n ≤ 7301442 by omega) dL_law_27 (fun fa H hP hD hS => ?_)
  refine lv_astore (lv' := [(4, .ref fa), (3, .int (nI n)), (2, .ref sm), (1, .ref r), (0, .ref b)]) hx hb dL_law_29 hl (by decide) rfl (fun ls hl => ?_)
  refine lv_iload_n hx hb dL_law_31 rfl (lv_at hl 1 rfl) ?_
  refine pl_newi hx hb (hts (.arrayClass .int) (by decide +kernel)) hK hP hD hS hA n rfl (by omega) (show 0 + 1 + 13 + 200 + 1 + 1 ≤ 600086 by omega) (show 0 + 6 + 115 + 2000 + n + n ≤ 7301442 by omega) dL_law_32 (fun pa H hP hD hS => ?_)
  refine lv_astore (lv' := [(5, .ref pa), (4, .ref fa), (3, .int (nI n)), (2, .ref sm), (1, .ref r), (0, .ref b)]) hx hb dL_law_34 hl (by decide) rfl (fun ls hl => ?_)
  refine lv_iload_n hx hb dL_law_36 rfl (lv_at hl 2 rfl) ?_
  refine pl_newi hx hb (hts (.arrayClass .int) (by decide +kernel)) hK hP hD hS hA n rfl (by omega) (show 0 + 1 + 13 + 200 + 1 + 1 + 1 ≤ 600086 by omega) (show 0 + 6 + 115 + 2000 + n + n + n ≤ 7301442 by omega) dL_law_37 (fun ea H hP hD hS => ?_)
  refine lv_astore (lv' := [(6, .ref ea), (5, .ref pa), (4, .ref fa), (3, .int (nI n)), (2, .ref sm), (1, .ref r), (0, .ref b)]) hx hb dL_law_39 hl (by decide) rfl (fun ls hl => ?_)
  refine lv_iconst (v := 0) hx hb dL_law_41 (by decide) ?_
  refine lv_istore (lv' := [(7, .int 0), (6, .ref ea), (5, .ref pa), (4, .ref fa), (3, .int (nI n)), (2, .ref sm), (1, .ref r), (0, .ref b)]) hx hb dL_law_42 hl (by decide) rfl (fun ls hl => ?_)
  have hP : va_P D vwCl (([(ea, aI cI n (fun _ => 0)), (pa, aI cI n (fun _ => 0)), (fa, aI cI n (fun _ => 0))] ++ LW) ++ wRace cI cT r (u.getD 0 0) (u.getD 1 0) (u.getD 2 0) (u.getD 3 0) (u.getD 4 0) ad2 n (nI 0) KF S U V T2) H := hP
  have hD : va_D (fun q : Nat => s.heap.size ≤ q) (([(ea, aI cI n (fun _ => 0)), (pa, aI cI n (fun _ => 0)), (fa, aI cI n (fun _ => 0))] ++ LW) ++ wRace cI cT r (u.getD 0 0) (u.getD 1 0) (u.getD 2 0) (u.getD 3 0) (u.getD 4 0) ad2 n (nI 0) KF S U V T2) := hD
  refine law_1 C Y (tk := 0) (T := T2) (FR := fun _ => 0) hAT (fun RP EN c1 s1 H locs ls hRP hEN hc1 hs1 hP hD hS hl => ?_) _ 0 (Nat.lt_succ_self _) (Nat.zero_le _) (fun _ => 0) (fun _ => 0) _ _ H locs ls (fun j hj => absurd hj (Nat.not_lt_zero j)) (fun j hj => absurd hj (Nat.not_lt_zero j)) (by omega) (by omega) hP hD hS (lv_sub hl [0, 1, 2, 3, 4, 5, 6, 7] rfl)
  refine lv_iconst (v := nI 0) hx hb dL_law_74 (by decide) ?_
  refine lv_istore (lv' := [(7, .int (nI 0)), (6, .ref ea), (5, .ref pa), (4, .ref fa), (3, .int (nI n)), (2, .ref sm), (1, .ref r), (0, .ref b)]) hx hb dL_law_75 hl (by decide) rfl (fun ls hl => ?_)
  refine lv_iconst (v := nI 1) hx hb dL_law_77 (by decide) ?_
  refine lv_istore (lv' := [(8, .int (nI 1)), (7, .int (nI 0)), (6, .ref ea), (5, .ref pa), (4, .ref fa), (3, .int (nI n)), (2, .ref sm), (1, .ref r), (0, .ref b)]) hx hb dL_law_78 hl (by decide) rfl (fun ls hl => ?_)
  refine W.base ?_
  have hFR : ∀ j, j < n → (fun _ : Nat => (0 : Int32)) j = (T2 (j + 2)).1 10 := fun j hj => (h0s j hj).1.symm
  have hEN2 : ∀ j, j < n → EN j = (T2 (j + 2)).1 16 := fun j hj => (hEN j hj).trans (h0s j hj).2.1.symm
  have hB0 := broke_0 (T := T2) (n := n) (fun t ht => (h0s t ht).2.2) n (Nat.le_refl n)
  refine law_8 C Y (fun d0 hd0 tk c2 s2 T3 FR3 RP3 EN3 H locs ls hAT3 hc2 hs2 hP hD hS hl => ?_) _ 0 (Nat.lt_succ_self _) (Nat.zero_le _) s.drawn (Drawn.sameBut.refl s.drawn lw_cs) 0 0 c1 s1 T2 (fun _ => 0) RP EN H locs ls hAT hFR hRP hEN2 hB0 (Nat.le_refl 0) (by omega) (by omega) (by omega) hP hD hS (lv_sub hl [0, 1, 2, 3, 4, 5, 6, 7, 8] rfl)
  refine law_9 (s := s.setDrawn d0) (C.draw d0) Y (c0 := c2) (s0 := s2) (by omega) (by omega) hAT3 (fun T4 c4 s4 H locs ls hz hc4 hs4 hP hD hS hl => ?_) H locs ls hP hD hS hl
  refine law_10 C Y (c0 := c4) (s0 := s4) (by omega) (by omega) hz (fun d1 hd1 H locs ls hS => ?_) d0 hd0 H locs ls hP hD hS hl
  refine va_forget (fun q hq => hS.2.2 q hq) ?_
  refine W.widen (k := 600086) (n := 7301442) (by omega) (by omega) ?_
  exact lw_ret hd1 hx hb hr hlocks dL_law_903
set_option maxHeartbeats 4000000 in
theorem lw_walk (l : Launch) (hflags : l.flags = flags0) (b : Addr) (xs : List Int32) : MetFree l x (headSpec (Jvm.Cond.code x code maxLocals ret :: tables_1) room_1) (lw_P b xs) (fun _ _ _ _ _ => True) lw_Q := by
  refine MetFree.of_bodyS (code := code) (maxLocals := maxLocals) (ret := ret) (by decide) ?_ ?_
  · intro args s m h hn
    obtain ⟨meth, c, h1, h2, h3, h4, h5, h6, -, -⟩ := Cond.code_spec hn (atoms_spec (ws := Jvm.Cond.code x code maxLocals ret :: tables_1) h _ List.mem_cons_self)
    exact ⟨meth, c, h1, h2, h3, h4, h5, h6⟩
  · intro p e s m args below meth c s₁ B hml0 hP _
    obtain ⟨rfl, hx, hbd, hgv⟩ := hP
    obtain ⟨scr, harrAt, hlist, hof, hsmall⟩ := hx
    obtain ⟨hcb, hkn, -, -⟩ := State.arrayAt?_spec harrAt
    have hown : s.vm.findClass R_law = some m.cls := findClass_of_methodNamed B.named
    have hts0 : ∀ c ∈ (Jvm.Cond.code x code maxLocals ret :: tables_1), c.before #[Value.ref b] s = true := atoms_spec (ws := Jvm.Cond.code x code maxLocals ret :: tables_1) B.pre
    have hts : ∀ w ∈ lw_tbl, w.before #[Value.ref b] s = true := k2_hts_sels lw_privs (fun w hw => hts0 w (List.mem_cons_of_mem _ hw)) lw_privs_ok
    have hml : c.maxLocals = 22 := B.maxLocals_eq (hts0 _ List.mem_cons_self)
    have X₀ : Stand p l e room_1 s m #[Value.ref b] below meth c s₁ [] 0 0 := Stand.of_body B
    have hh0 : s₁.heap = s.heap := by rw [B.state]; rfl
    have hsz : scr.slots.size = xs.length := by rw [← Array.length_toList, hlist, List.length_map]
    have hval : ∀ j : Nat, j < xs.length → scr.slots[j]? = some (.int (xs.getD j 0)) := fun j hj => by
      rw [← Array.getElem?_toList, hlist]
      simp [hj]
    have hbl : b < s.heap.size := (Array.getElem?_eq_some_iff.mp hcb).1
    have hX : va_X b xs.length (fun j => xs.getD j 0) s s.heap := ⟨scr, hcb, hof, hkn, hsz, hval⟩
    have K : W p l e room_1 s m #[Value.ref b] below meth c s₁.heap [] 0 0 (lw_Z below #[Value.ref b] s) (entryFrame m ([Value.ref b] : List Value).toArray 22) := by
      rw [hh0]
      exact whole_start l hflags hbd ⟨B.exec, B.bytes, B.returns, hml, hown, hts, hX, hbl, B.notSynchronized, hgv⟩
    obtain ⟨t, a1, o, b1, b2, b3⟩ := K s₁ rfl X₀
    exact ⟨t, o, a1, b1, b2, b3⟩
theorem lw_pre_spec {args : Array Value} {s : State} (h : (Jvm.Cond.and given_1 narrow_1).before args s = true) (hr : rest_1_c.before args s = true) : ∃ (b : Addr) (xs : List Int32), lw_P b xs args s := by
  have hs := flat_of_before _ h
  have hq := flat_of_before _ hr
  have hc : (Cond.count 1).before args s = true := hs _ (by decide +kernel)
  have harr : (Cond.arrayOf (.arg 0) .int).before args s = true := hs _ (by decide +kernel)
  have hle : (Cond.le (.length (.arg 0)) (.int 260)).before args s = true := hs _ (by decide +kernel)
  have hlen : (Cond.isInt (.length (.arg 0))).before args s = true := hq _ (by decide +kernel)
  have hall : (Cond.all (.arg 0) (.isInt (.elem (.arg 0) (.index 0)))).before args s = true := hq _ (by decide +kernel)
  obtain ⟨b, xs, hb, hx⟩ := State.ints_of_pre rfl harr hlen hall
  have hsm : xs.length < 2 ^ 31 := hx.choose_spec.2.2.2
  have hev : (Term.length (.arg 0)).eval args s none [] s = some (.int xs.length.toInt32) := hx.length_eval hb
  have hv := Cond.le_ints hev (show (Term.int 260).eval args s none [] s = some (.int 260) from rfl)
  have hd : xs.length.toInt32 ≤ 260 := by
    simpa [Cond.before, Cond.holds, hv] using hle
  have hN : xs.length ≤ 260 := (Int32.ofNat_le_ofNat hsm (by decide)).mp (show Int32.ofNat xs.length ≤ Int32.ofNat 260 from hd)
  exact ⟨b, xs, Cond.one_arg hc (show args[0]? = some (.ref b) from hb), hx, hN, h⟩
theorem lw_comes (l : Launch) (hflags : l.flags = flags0) : Comes l x (Jvm.Cond.code x code maxLocals ret :: tables_1) room_1 (fun tb e args s => Calls_1 tb e args s ∧ rest_1 tb e args s ∧ Pre_1 tb e args s)
    (fun _ _ args s o t => lw_Q args s o t) := by
  intro p e ha hc hk s m args below hf hfit hheap happ hpre
  obtain ⟨b, xs, hP⟩ := lw_pre_spec hpre.2.2 hpre.2.1
  obtain ⟨k, o, h1, h2, h3, hQ⟩ := lw_walk l hflags b xs p e ha hc hk s m args below hf ((Spec.applies_iff_loose hf).mp happ).1 hP trivial
  exact ⟨k, o, h1, h2, h3, hQ⟩
theorem lw_frame {s t : State} {o : Outcome} {args : Array Value} (h : State.butDraws s t lw_cs (fun t1 => Framed s o t1 [] 600086 7301442)) :
    State.butDraws s t [Jvm.Choice.named "NaN.bits"] (fun t1 => Framed s o t1 (fieldLocs frame_1_writes args s ++ arrayLocs frame_1_arrays args s ++ staticLocs frame_1_statics s) 600086 7301442) := h
theorem lw_limb (L : Cond) (hL : ∀ (args : Array Value) (s t : State), L.after args s (.returned (some (.int 1))) t = true) :
    ArmFor flags0 classFile x code maxLocals ret World_1 tables_1 room_1 Calls_1 rest_1 Pre_1
      (fun tb e a s o t => postC L tb e a s o t ∧ State.butDraws s t [Jvm.Choice.named "NaN.bits"] (fun t1 => Framed s o t1 (fieldLocs frame_1_writes a s ++ arrayLocs frame_1_arrays a s ++ staticLocs frame_1_statics s) 600086 7301442)) := by
  intro l hflags _ _ p e ha hc hk s m args below hf hfit hheap happ hpre
  obtain ⟨k, o, h1, h2, h3, rfl, hF⟩ := lw_comes l hflags p e ha hc hk s m args below hf hfit hheap happ hpre
  exact ⟨k, _, h1, h2, h3, hL args s _, lw_frame hF⟩
theorem i_vc : Claimed_1_1 ∧ Claimed_1_2 := ⟨lw_limb limb_1_1 (fun args s t => by simp [limb_1_1, Cond.after, Cond.holds, Cond.value]), lw_limb limb_1_2 (fun args s t => Cond.after_iff.mpr (by
  first | (rw [show limb_1_2 = Cond.eq .result (.int 1) from rfl, Cond.eq_ints (x := 1) (y := 1) rfl rfl]; simp; done) | (simp [limb_1_2, Cond.value, Term.eval]; done)))⟩
