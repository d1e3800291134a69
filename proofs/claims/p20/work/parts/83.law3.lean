/-! p20: the law's body: what is asked of each team -/
theorem mix_up {FR A B : Nat → Int32} {n t : Nat} (h : ∀ j, j < n → FR j = if j < t then A j else B j) : ∀ j, j < n → upd FR t (A t) j = if j < t + 1 then A j else B j := fun j hj => by
  by_cases e : j = t
  · subst e; rw [pk_us, if_pos (by omega)]
  · rw [pk_un e, h j hj]
    by_cases c : j < t
    · rw [if_pos c, if_pos (by omega)]
    · rw [if_neg c, if_neg (by omega)]
theorem te_lt {F : Nat → Int32} {tk : Nat} {tl : Int32} (h : TEn F tk tl) (htk : tk ≤ 1000) : F 16 < 0 ↔ F 10 < tl := by
  rcases h with q | ⟨⟨en, q1, _⟩, q3⟩
  · exact ⟨fun _ => q.2, fun _ => by rw [q.1]; decide⟩
  · exact ⟨fun z => by rw [q1] at z; exact absurd z (nI_pos (by omega)), fun z => absurd z q3⟩
def endB (T : Nat → TV) (u : Nat) : Bool := decide (¬ (T (u + 2)).1 16 < 0)
set_option maxHeartbeats 8000000 in
set_option maxRecDepth 100000 in
theorem law_4 {p : Program} {l : Launch} {e : Env} {s : State} {m : MethodId} {args : Array Value} {below : List Frame} {meth : Method} {c : Code} {D : va_G} {cI cT cL cG cZ : ClassId} {Q : State → Prop} {r tr k1 k2 k3 ts b sm tt fa pa ea n ns len : Nat} {ad : Nat → Nat → Nat} {KF S U V : Nat → Int32} {f : Nat → Option Nat} {LW : va_W} (C : LX p l s m args c D cI cT cL cG cZ) (Y : LYx cL LW sm tt f n ns KF U V len) {tk bk0 wa za c0 s0 : Nat} {T T2 : Nat → TV} {WY : Nat → Int32} (hc0 : c0 ≤ 100000) (hs0 : s0 ≤ 1000000) (htk : tk < 120) (hbk0 : bk0 ≤ 100000) (hAT2 : ATx cI f LW T2 n (tk + 1) (nI len)) (hTkF : ∀ t, t < n → TkF (T (t + 2)) (T2 (t + 2)) tk (wayT S U V ns (T (t + 2)))) (hWY : ∀ j, j < n → WY j = wayT S U V ns (T (j + 2))) (kk : ∀ (FR RP EN Z : Nat → Int32) (c1 s1 : Nat) (H : Heap) (locs : List Loc) (ls : Array Slot), (∀ j, j < n → FR j = (T2 (j + 2)).1 10) → (∀ j, j < n → RP j = (T2 (j + 2)).1 12) → (∀ j, j < n → EN j = (T2 (j + 2)).1 16) → (∀ j, j < n → Z j = 1) → c1 ≤ c0 + 300 → s1 ≤ s0 + 1800 → va_P D vwCl (([(za, aI cZ n Z), (wa, aI cI n WY), (ea, aI cI n EN), (pa, aI cI n RP), (fa, aI cI n FR)] ++ LW) ++ wRace cI cT r tr k1 k2 k3 ts ad n (nI (tk + 1)) KF S U V T2) H → va_D (fun q : Nat => s.heap.size ≤ q) (([(za, aI cZ n Z), (wa, aI cI n WY), (ea, aI cI n EN), (pa, aI cI n RP), (fa, aI cI n FR)] ++ LW) ++ wRace cI cT r tr k1 k2 k3 ts ad n (nI (tk + 1)) KF S U V T2) → va_S (fun q : Nat => s.heap.size ≤ q) s.heap H locs → lv_has ls 22 [(14, .ref za), (13, .int (cFronts T2 n)), (12, .int (nI (cnt (endB T2) n))), (11, .int (nI (cEnded T2 n))), (9, .ref wa), (8, .int (nI (tk + 1))), (7, .int (nI (bk0 + cnt (dqB T T2) n))), (6, .ref ea), (5, .ref pa), (4, .ref fa), (3, .int (nI n)), (2, .ref sm), (1, .ref r), (0, .ref b)] → W p l e room_1 s m args below meth c H locs  c1 s1 Q (F0 m 795 ls [])) : ∀ (fu t : Nat), n - t < fu → t ≤ n → ∀ (FR RP EN Z : Nat → Int32) (c1 s1 : Nat) (H : Heap) (locs : List Loc) (ls : Array Slot), (∀ j, j < n → FR j = if j < t then (T2 (j + 2)).1 10 else (T (j + 2)).1 10) → (∀ j, j < n → RP j = if j < t then (T2 (j + 2)).1 12 else (T (j + 2)).1 12) → (∀ j, j < n → EN j = if j < t then (T2 (j + 2)).1 16 else (T (j + 2)).1 16) → (∀ k, k < t → ∀ j, j < n → cAtRank T2 n (nI k) = nI j → Z j = 1) → c1 ≤ c0 + 70 * t → s1 ≤ s0 + 420 * t → va_P D vwCl (([(za, aI cZ n Z), (wa, aI cI n WY), (ea, aI cI n EN), (pa, aI cI n RP), (fa, aI cI n FR)] ++ LW) ++ wRace cI cT r tr k1 k2 k3 ts ad n (nI (tk + 1)) KF S U V T2) H → va_D (fun q : Nat => s.heap.size ≤ q) (([(za, aI cZ n Z), (wa, aI cI n WY), (ea, aI cI n EN), (pa, aI cI n RP), (fa, aI cI n FR)] ++ LW) ++ wRace cI cT r tr k1 k2 k3 ts ad n (nI (tk + 1)) KF S U V T2) → va_S (fun q : Nat => s.heap.size ≤ q) s.heap H locs → lv_has ls 22 [(15, .int (nI t)), (14, .ref za), (13, .int (cFronts T2 t)), (12, .int (nI (cnt (endB T2) t))), (11, .int (nI (cEnded T2 n))), (9, .ref wa), (8, .int (nI (tk + 1))), (7, .int (nI (bk0 + cnt (dqB T T2) t))), (6, .ref ea), (5, .ref pa), (4, .ref fa), (3, .int (nI n)), (2, .ref sm), (1, .ref r), (0, .ref b)] → W p l e room_1 s m args below meth c H locs  c1 s1 Q (F0 m 242 ls []) := by
  obtain ⟨hx, hb, hml, hown, hts, hX, hXS, hXZ, hl9⟩ := id C
  obtain ⟨⟨hn1, hn4⟩, hTk, hK4, hlen, ⟨qs, g9, hSM⟩, ⟨qt, hTT⟩⟩ := id Y
  have hA : ∀ q : Nat, s.heap.size ≤ q → (fun q : Nat => s.heap.size ≤ q) q := fun _ h => h
  have hiX3 : ∀ w ∈ u_ws RX3 TX3 5, w ∈ wsL_law := inlX3
  have hiX4 : ∀ w ∈ u_ws RX4 TX4 17, w ∈ wsL_law := inlX4
  intro fu
  induction fu with
  | zero => intro t hfu; exact absurd hfu (Nat.not_lt_zero _)
  | succ fu ih =>
    intro t hfu htn FR RP EN Z c1 s1 H locs ls hFR hRP hEN hZ hc1 hs1 hP hD hS hl
    refine lv_iload hx hb dL_law_242 (lv_at hl 0 rfl) ?_
    refine lv_iload_n hx hb dL_law_244 rfl (lv_at hl 11 rfl) ?_
    refine sp_ge (by omega) (by omega) (tgt := 795) hx hb dL_law_245 (by decide) (fun ht => ?_) (fun ht => ?_)
    · skip
      have ek : t = n := by omega
      subst ek
      exact kk FR RP EN Z c1 s1 H locs ls (fun j hj => by rw [hFR j hj, if_pos hj]) (fun j hj => by rw [hRP j hj, if_pos hj]) (fun j hj => by rw [hEN j hj, if_pos hj]) (fun j hj => by obtain ⟨k, hk, e9⟩ := rank_on (by omega) hAT2.2.2 hj; exact hZ k hk j hj e9) (by omega) (by omega) hP hD hS (lv_sub hl [1, 2, 3, 4, 5, 6, 7, 8, 9, 10, 11, 12, 13, 14] rfl)
    · skip
      have hLR := hAT2.2.1 t ht
      have hok := (hAT2.1 t ht).ok
      obtain ⟨ln1, w1, n1, nh1, hR, hF, ⟨⟨fr, h10, hfr⟩, ⟨br, h11, hbr⟩, ⟨ro, h12, hro1, hro2⟩, ⟨kn, h13, hkn⟩, ⟨bk9, h14, hbk9⟩⟩, hE, hPl⟩ := hAT2.1 t ht
      obtain ⟨ta, q1, ra, q2, ha, q3, ca, lf, F9, P9, G9, nr, nh, w9, ln, hta, hq1, hq2, hq3, hF90, hF91, hT1, hT2, hT3, hT6, hnr, hnh, hw9, hln⟩ := id hLR
      have en1 : n1 = nr := nI_inj' (by have := hR.2.2.1; omega) (by omega) (hF.2.2.1.symm.trans hT3)
      have enh1 : nh1 = nh := nI_inj' (by have := hR.2.2.2; omega) (by omega) (hF.2.2.2.1.symm.trans hT6)
      subst en1
      subst enh1
      have hcn : cN (T2 (t + 2)) = n1 := by unfold cN; rw [hT3]; exact nI_clamp (by omega)
      have hfl : ∀ x : Int32, x < (T2 (t + 2)).1 10 - (T2 (t + 2)).1 1 → ¬ (T2 (t + 2)).1 10 < x := fun x hx9 z => by
        have g1 : (nI fr - nI ln).toInt = (fr : Int) - ln := pk_sub_toInt (by omega) (by omega)
        have g2 : (nI fr).toInt = (fr : Int) := nI_toInt (by omega)
        rw [h10, hT1, Int32.lt_iff_toInt_lt, g1] at hx9
        rw [h10, Int32.lt_iff_toInt_lt, g2] at z
        omega
      obtain ⟨k1x, ⟨jw, hjw, ejw⟩, ⟨ra0, rb0, ka, kb, hba, ha4⟩, -, k5, k6⟩ := hTkF t ht
      have hFRt : FR t = (T (t + 2)).1 10 := by rw [hFR t ht, if_neg (Nat.lt_irrefl t)]
      have hRPt : RP t = (T (t + 2)).1 12 := by rw [hRP t ht, if_neg (Nat.lt_irrefl t)]
      have hENt : EN t = (T (t + 2)).1 16 := by rw [hEN t ht, if_neg (Nat.lt_irrefl t)]
      have hWt : WY t = nI jw := (hWY t ht).trans ejw
      have hte := te_lt hE (by omega)
      have hsum := lie_sum (T2 (t + 2)).1 (T2 (t + 2)).2.1 n1
      have hhand := lie_hand (F := (T2 (t + 2)).1) hPl (by omega)
      refine lv_aload_n hx hb dL_law_248 rfl (lv_at hl 13 rfl) ?_
      refine lv_iload hx hb dL_law_249 (lv_at hl 0 rfl) ?_
      refine lv_iconst (v := 0) hx hb dL_law_251 (by decide) ?_
      refine pl_sO (W0 := ([(za, aI cZ n Z), (wa, aI cI n WY), (ea, aI cI n EN), (pa, aI cI n RP), (fa, aI cI n FR)] ++ LW)) (w' := wRace cI cT r tr k1 k2 k3 ts ad n (nI (tk + 1)) KF S U V T2) (rest := []) (As := [.int (nI t), .int 0]) ⟨hx, hb, hml, hown, hts⟩ (mX2_team l D cI cT hl9 H.size r tr k1 k2 k3 ts ad n (by omega) (nI (tk + 1)) KF S U V T2 (hAT2.tm) (nI t) 0) (cwV 2 hts gL_law_X2_team rfl rfl rfl (by decide +kernel) ⟨Nat.le_of_ble_eq_true rfl, Nat.le_of_ble_eq_true rfl⟩) (tm_0 ht hn4) hX.1 hXZ hXS hP hD hS hA (xb_fst rfl cI ad _ _ _) (ci := 2) rfl rfl rfl rfl hl.1 rfl (Nat.le_of_ble_eq_true rfl) dL_law_252 ⟨by decide, by decide⟩ ⟨show c1 + 2 ≤ 600086 by omega, show s1 + 12 ≤ 7301442 by omega⟩ (fun H locs hP hD hS => ?_)
      refine lv_istore (lv' := [(16, .int ((T2 (t + 2)).1 10)), (15, .int (nI t)), (14, .ref za), (13, .int (cFronts T2 t)), (12, .int (nI (cnt (endB T2) t))), (11, .int (nI (cEnded T2 n))), (9, .ref wa), (8, .int (nI (tk + 1))), (7, .int (nI (bk0 + cnt (dqB T T2) t))), (6, .ref ea), (5, .ref pa), (4, .ref fa), (3, .int (nI n)), (2, .ref sm), (1, .ref r), (0, .ref b)]) hx hb dL_law_255 hl (by decide) rfl (fun ls hl => ?_)
      refine lv_aload_n hx hb dL_law_257 rfl (lv_at hl 13 rfl) ?_
      refine va_get (D := D) (ci := 3) (v := .ref tt) (C := RX3) (T := TX3) (N := 5) hx hb hts hiX3 hown hX.2.1 hP (qs + 5) (show _ = some (sm, oSv 0 (nI len) 0 g9 (.ref tt)) from pl_at hSM) rfl 4 (by decide) (hts (.fieldLink RL 45 "SledgeRaceLaw$Sim" "teams" "[LSledgeRaceLaw$Team;") (by decide +kernel)) (fun _ h9 => h9) rfl dL_law_258 ?_
      refine lv_iload hx hb dL_law_261 (lv_at hl 1 rfl) ?_
      refine pl_lld hx hb hX hP (qt + 5) (show _ = some (tt, aQ cL n f) from pl_at hTT) ht (by omega) hta dL_law_263 ?_
      refine va_get (D := D) (ci := 4) (v := .ref ra) (C := RX4) (T := TX4) (N := 17) hx hb hts hiX4 hown hX.2.1 hP (q1 + 5) (show _ = some (ta, oYv F9 (.ref ra) ca (.ref ha) lf) from pl_at hq1) rfl 13 (by decide) (hts (.fieldLink RL 56 "SledgeRaceLaw$Team" "rollers" "[I") (by decide +kernel)) (fun _ h9 => h9) rfl dL_law_264 ?_
      refine va_alen hx hb hX.2.1 hP (q2 + 5) 0 (show _ = some (ra, aI cI n1 P9) from pl_at hq2) rfl (v := nI n1) rfl dL_law_267 ?_
      refine lv_istore (lv' := [(17, .int (nI n1)), (16, .int ((T2 (t + 2)).1 10)), (15, .int (nI t)), (14, .ref za), (13, .int (cFronts T2 t)), (12, .int (nI (cnt (endB T2) t))), (11, .int (nI (cEnded T2 n))), (9, .ref wa), (8, .int (nI (tk + 1))), (7, .int (nI (bk0 + cnt (dqB T T2) t))), (6, .ref ea), (5, .ref pa), (4, .ref fa), (3, .int (nI n)), (2, .ref sm), (1, .ref r), (0, .ref b)]) hx hb dL_law_268 hl (by decide) rfl (fun ls hl => ?_)
      refine lv_iconst (v := nI 0) hx hb dL_law_270 (by decide) ?_
      refine lv_istore (lv' := [(18, .int (nI 0)), (17, .int (nI n1)), (16, .int ((T2 (t + 2)).1 10)), (15, .int (nI t)), (14, .ref za), (13, .int (cFronts T2 t)), (12, .int (nI (cnt (endB T2) t))), (11, .int (nI (cEnded T2 n))), (9, .ref wa), (8, .int (nI (tk + 1))), (7, .int (nI (bk0 + cnt (dqB T T2) t))), (6, .ref ea), (5, .ref pa), (4, .ref fa), (3, .int (nI n)), (2, .ref sm), (1, .ref r), (0, .ref b)]) hx hb dL_law_271 hl (by decide) rfl (fun ls hl => ?_)
      refine lv_iconst (v := nI 0) hx hb dL_law_273 (by decide) ?_
      refine lv_istore (lv' := [(19, .int (nI 0)), (18, .int (nI 0)), (17, .int (nI n1)), (16, .int ((T2 (t + 2)).1 10)), (15, .int (nI t)), (14, .ref za), (13, .int (cFronts T2 t)), (12, .int (nI (cnt (endB T2) t))), (11, .int (nI (cEnded T2 n))), (9, .ref wa), (8, .int (nI (tk + 1))), (7, .int (nI (bk0 + cnt (dqB T T2) t))), (6, .ref ea), (5, .ref pa), (4, .ref fa), (3, .int (nI n)), (2, .ref sm), (1, .ref r), (0, .ref b)]) hx hb dL_law_274 hl (by decide) rfl (fun ls hl => ?_)
      refine lv_iconst (v := nI 0) hx hb dL_law_276 (by decide) ?_
      refine lv_istore (lv' := [(20, .int (nI 0)), (19, .int (nI 0)), (18, .int (nI 0)), (17, .int (nI n1)), (16, .int ((T2 (t + 2)).1 10)), (15, .int (nI t)), (14, .ref za), (13, .int (cFronts T2 t)), (12, .int (nI (cnt (endB T2) t))), (11, .int (nI (cEnded T2 n))), (9, .ref wa), (8, .int (nI (tk + 1))), (7, .int (nI (bk0 + cnt (dqB T T2) t))), (6, .ref ea), (5, .ref pa), (4, .ref fa), (3, .int (nI n)), (2, .ref sm), (1, .ref r), (0, .ref b)]) hx hb dL_law_277 hl (by decide) rfl (fun ls hl => ?_)
      refine law_5 C Y (T := T2) (tk := tk) (c0 := c0 + 70 * t + 2) (s0 := s0 + 420 * t + 12) (by omega) (by omega) ht hok hcn hnr hLR hfl (fun uu ub c2 s2 H locs ls huu hub hc2 hs2 hP hD hS hl => ?_) _ 0 (Nat.lt_succ_self _) (Nat.zero_le _) 0 0 _ _ H locs ls rfl rfl (by omega) (by omega) hP hD hS (lv_sub hl [0, 1, 2, 3, 4, 5, 6, 7, 8, 9, 10, 11, 12, 13, 14, 15, 16, 17, 18, 19] rfl)
      have after722 : ∀ (c3 s3 : Nat) (H : Heap) (locs : List Loc) (ls : Array Slot), c3 ≤ c0 + 70 * t + 62 → s3 ≤ s0 + 420 * t + 372 → va_P D vwCl (([(za, aI cZ n Z), (wa, aI cI n WY), (ea, aI cI n EN), (pa, aI cI n RP), (fa, aI cI n FR)] ++ LW) ++ wRace cI cT r tr k1 k2 k3 ts ad n (nI (tk + 1)) KF S U V T2) H → va_D (fun q : Nat => s.heap.size ≤ q) (([(za, aI cZ n Z), (wa, aI cI n WY), (ea, aI cI n EN), (pa, aI cI n RP), (fa, aI cI n FR)] ++ LW) ++ wRace cI cT r tr k1 k2 k3 ts ad n (nI (tk + 1)) KF S U V T2) → va_S (fun q : Nat => s.heap.size ≤ q) s.heap H locs → lv_has ls 22 [(16, .int ((T2 (t + 2)).1 10)), (15, .int (nI t)), (14, .ref za), (13, .int (cFronts T2 t)), (12, .int (nI (cnt (endB T2) t))), (11, .int (nI (cEnded T2 n))), (9, .ref wa), (8, .int (nI (tk + 1))), (7, .int (nI (bk0 + cnt (dqB T T2) (t + 1)))), (6, .ref ea), (5, .ref pa), (4, .ref fa), (3, .int (nI n)), (2, .ref sm), (1, .ref r), (0, .ref b)] → W p l e room_1 s m args below meth c H locs  c3 s3 Q (F0 m 722 ls []) := by
        intro c3 s3 H locs ls hc3 hs3 hP hD hS hl
        refine lv_aload hx hb dL_law_722 (lv_at hl 11 rfl) ?_
        refine lv_iload hx hb dL_law_724 (lv_at hl 1 rfl) ?_
        refine lv_iload hx hb dL_law_726 (lv_at hl 0 rfl) ?_
        refine sp_iast hx hb hX.1.1 hP hD hS 4 0 rfl rfl (by omega) (by omega) dL_law_728 (fun H locs hP hD hS => ?_)
        have hP : va_P D vwCl (([(za, aI cZ n Z), (wa, aI cI n WY), (ea, aI cI n EN), (pa, aI cI n RP), (fa, aI cI n (upd FR t ((T2 (t + 2)).1 10)))] ++ LW) ++ wRace cI cT r tr k1 k2 k3 ts ad n (nI (tk + 1)) KF S U V T2) H := hP
        have hD : va_D (fun q : Nat => s.heap.size ≤ q) (([(za, aI cZ n Z), (wa, aI cI n WY), (ea, aI cI n EN), (pa, aI cI n RP), (fa, aI cI n (upd FR t ((T2 (t + 2)).1 10)))] ++ LW) ++ wRace cI cT r tr k1 k2 k3 ts ad n (nI (tk + 1)) KF S U V T2) := hD
        refine lv_aload hx hb dL_law_729 (lv_at hl 10 rfl) ?_
        refine lv_iload hx hb dL_law_731 (lv_at hl 1 rfl) ?_
        refine lv_aload_n hx hb dL_law_733 rfl (lv_at hl 14 rfl) ?_
        refine lv_iload hx hb dL_law_734 (lv_at hl 1 rfl) ?_
        refine lv_iconst (v := 2) hx hb dL_law_736 (by decide) ?_
        refine pl_sO (W0 := ([(za, aI cZ n Z), (wa, aI cI n WY), (ea, aI cI n EN), (pa, aI cI n RP), (fa, aI cI n (upd FR t ((T2 (t + 2)).1 10)))] ++ LW)) (w' := wRace cI cT r tr k1 k2 k3 ts ad n (nI (tk + 1)) KF S U V T2) (rest := [.int (nI t), .ref pa]) (As := [.int (nI t), .int 2]) ⟨hx, hb, hml, hown, hts⟩ (mX2_team l D cI cT hl9 H.size r tr k1 k2 k3 ts ad n (by omega) (nI (tk + 1)) KF S U V T2 (hAT2.tm) (nI t) 2) (cwV 2 hts gL_law_X2_team rfl rfl rfl (by decide +kernel) ⟨Nat.le_of_ble_eq_true rfl, Nat.le_of_ble_eq_true rfl⟩) (tm_2 ht hn4) hX.1 hXZ hXS hP hD hS hA (xb_fst rfl cI ad _ _ _) (ci := 2) rfl rfl rfl rfl hl.1 rfl (Nat.le_of_ble_eq_true rfl) dL_law_737 ⟨by decide, by decide⟩ ⟨show c3 + 2 ≤ 600086 by omega, show s3 + 12 ≤ 7301442 by omega⟩ (fun H locs hP hD hS => ?_)
        refine sp_iast hx hb hX.1.1 hP hD hS 3 0 rfl rfl (by omega) (by omega) dL_law_740 (fun H locs hP hD hS => ?_)
        have hP : va_P D vwCl (([(za, aI cZ n Z), (wa, aI cI n WY), (ea, aI cI n EN), (pa, aI cI n (upd RP t ((T2 (t + 2)).1 12))), (fa, aI cI n (upd FR t ((T2 (t + 2)).1 10)))] ++ LW) ++ wRace cI cT r tr k1 k2 k3 ts ad n (nI (tk + 1)) KF S U V T2) H := hP
        have hD : va_D (fun q : Nat => s.heap.size ≤ q) (([(za, aI cZ n Z), (wa, aI cI n WY), (ea, aI cI n EN), (pa, aI cI n (upd RP t ((T2 (t + 2)).1 12))), (fa, aI cI n (upd FR t ((T2 (t + 2)).1 10)))] ++ LW) ++ wRace cI cT r tr k1 k2 k3 ts ad n (nI (tk + 1)) KF S U V T2) := hD
        refine lv_aload hx hb dL_law_741 (lv_at hl 9 rfl) ?_
        refine lv_iload hx hb dL_law_743 (lv_at hl 1 rfl) ?_
        refine lv_aload_n hx hb dL_law_745 rfl (lv_at hl 14 rfl) ?_
        refine lv_iload hx hb dL_law_746 (lv_at hl 1 rfl) ?_
        refine lv_bipush (v := 8) hx hb dL_law_748 (by decide) ?_
        refine pl_sO (W0 := ([(za, aI cZ n Z), (wa, aI cI n WY), (ea, aI cI n EN), (pa, aI cI n (upd RP t ((T2 (t + 2)).1 12))), (fa, aI cI n (upd FR t ((T2 (t + 2)).1 10)))] ++ LW)) (w' := wRace cI cT r tr k1 k2 k3 ts ad n (nI (tk + 1)) KF S U V T2) (rest := [.int (nI t), .ref ea]) (As := [.int (nI t), .int 8]) ⟨hx, hb, hml, hown, hts⟩ (mX2_team l D cI cT hl9 H.size r tr k1 k2 k3 ts ad n (by omega) (nI (tk + 1)) KF S U V T2 (hAT2.tm) (nI t) 8) (cwV 2 hts gL_law_X2_team rfl rfl rfl (by decide +kernel) ⟨Nat.le_of_ble_eq_true rfl, Nat.le_of_ble_eq_true rfl⟩) (tm_8 ht hn4) hX.1 hXZ hXS hP hD hS hA (xb_fst rfl cI ad _ _ _) (ci := 2) rfl rfl rfl rfl hl.1 rfl (Nat.le_of_ble_eq_true rfl) dL_law_750 ⟨by decide, by decide⟩ ⟨show c3 + 2 + 2 ≤ 600086 by omega, show s3 + 12 + 12 ≤ 7301442 by omega⟩ (fun H locs hP hD hS => ?_)
        refine sp_iast hx hb hX.1.1 hP hD hS 2 0 rfl rfl (by omega) (by omega) dL_law_753 (fun H locs hP hD hS => ?_)
        have hP : va_P D vwCl (([(za, aI cZ n Z), (wa, aI cI n WY), (ea, aI cI n (upd EN t ((T2 (t + 2)).1 16))), (pa, aI cI n (upd RP t ((T2 (t + 2)).1 12))), (fa, aI cI n (upd FR t ((T2 (t + 2)).1 10)))] ++ LW) ++ wRace cI cT r tr k1 k2 k3 ts ad n (nI (tk + 1)) KF S U V T2) H := hP
        have hD : va_D (fun q : Nat => s.heap.size ≤ q) (([(za, aI cZ n Z), (wa, aI cI n WY), (ea, aI cI n (upd EN t ((T2 (t + 2)).1 16))), (pa, aI cI n (upd RP t ((T2 (t + 2)).1 12))), (fa, aI cI n (upd FR t ((T2 (t + 2)).1 10)))] ++ LW) ++ wRace cI cT r tr k1 k2 k3 ts ad n (nI (tk + 1)) KF S U V T2) := hD
        have after772 : ∀ (ls : Array Slot), lv_has ls 22 [(12, .int (nI (cnt (endB T2) (t + 1)))), (16, .int ((T2 (t + 2)).1 10)), (15, .int (nI t)), (14, .ref za), (13, .int (cFronts T2 t)), (11, .int (nI (cEnded T2 n))), (9, .ref wa), (8, .int (nI (tk + 1))), (7, .int (nI (bk0 + cnt (dqB T T2) (t + 1)))), (6, .ref ea), (5, .ref pa), (4, .ref fa), (3, .int (nI n)), (2, .ref sm), (1, .ref r), (0, .ref b)] → W p l e room_1 s m args below meth c H locs  (c3 + 2 + 2) (s3 + 12 + 12) Q (F0 m 772 ls []) := by
          intro ls hl
          refine lv_iload hx hb dL_law_772 (lv_at hl 4 rfl) ?_
          refine lv_iload hx hb dL_law_774 (lv_at hl 1 rfl) ?_
          refine lv_iadd hx hb dL_law_776 ?_
          refine sp_top (show (cFronts T2 t) + ((T2 (t + 2)).1 10) = cFronts T2 (t + 1) from rfl) ?_
          refine lv_istore (lv' := [(13, .int (cFronts T2 (t + 1))), (12, .int (nI (cnt (endB T2) (t + 1)))), (16, .int ((T2 (t + 2)).1 10)), (15, .int (nI t)), (14, .ref za), (11, .int (nI (cEnded T2 n))), (9, .ref wa), (8, .int (nI (tk + 1))), (7, .int (nI (bk0 + cnt (dqB T T2) (t + 1)))), (6, .ref ea), (5, .ref pa), (4, .ref fa), (3, .int (nI n)), (2, .ref sm), (1, .ref r), (0, .ref b)]) hx hb dL_law_777 hl (by decide) rfl (fun ls hl => ?_)
          refine lv_aload hx hb dL_law_779 (lv_at hl 4 rfl) ?_
          refine lv_aload_n hx hb dL_law_781 rfl (lv_at hl 14 rfl) ?_
          refine lv_iload hx hb dL_law_782 (lv_at hl 3 rfl) ?_
          refine pl_sO (W0 := ([(za, aI cZ n Z), (wa, aI cI n WY), (ea, aI cI n (upd EN t ((T2 (t + 2)).1 16))), (pa, aI cI n (upd RP t ((T2 (t + 2)).1 12))), (fa, aI cI n (upd FR t ((T2 (t + 2)).1 10)))] ++ LW)) (w' := wRace cI cT r tr k1 k2 k3 ts ad n (nI (tk + 1)) KF S U V T2) (rest := [.ref za]) (As := [.int (nI t)]) ⟨hx, hb, hml, hown, hts⟩ (mX2_ranked l D cI cT hl9 H.size r tr k1 k2 k3 ts ad n (by omega) (nI (tk + 1)) KF S U V T2 (nI t)) (cwV 1 hts gL_law_X2_ranked rfl rfl rfl (by decide +kernel) ⟨Nat.le_of_ble_eq_true rfl, Nat.le_of_ble_eq_true rfl⟩) (ranked_res ht (by omega)) hX.1 hXZ hXS hP hD hS hA (xb_fst rfl cI ad _ _ _) (ci := 2) rfl rfl rfl rfl hl.1 rfl (Nat.le_of_ble_eq_true rfl) dL_law_784 ⟨by decide, by decide⟩ ⟨show c3 + 2 + 2 + 2 ≤ 600086 by omega, show s3 + 12 + 12 + 12 ≤ 7301442 by omega⟩ (fun H locs hP hD hS => ?_)
          obtain ⟨jt, hjt, ejt⟩ := rank_at (by omega) hAT2.2.2 ht
          refine sp_top (show cAtRank T2 n (nI t) = nI jt from ejt) ?_
          refine lv_iconst (v := 1) hx hb dL_law_787 (by decide) ?_
          refine va_zast hx hb hX.2.1 hP hD hS 0 3 rfl rfl (vp_in_nI hjt (by omega)) dL_law_788 (fun H locs hP hD hS => ?_)
          have ejc : (nI jt).toNatClampNeg = jt := nI_clamp (by omega)
          have en1z : vp_nar .boolean 1 = 1 := by decide
          rw [ejc, en1z] at hP hD
          have hP : va_P D vwCl (([(za, aI cZ n (upd Z jt 1)), (wa, aI cI n WY), (ea, aI cI n (upd EN t ((T2 (t + 2)).1 16))), (pa, aI cI n (upd RP t ((T2 (t + 2)).1 12))), (fa, aI cI n (upd FR t ((T2 (t + 2)).1 10)))] ++ LW) ++ wRace cI cT r tr k1 k2 k3 ts ad n (nI (tk + 1)) KF S U V T2) H := hP
          have hD : va_D (fun q : Nat => s.heap.size ≤ q) (([(za, aI cZ n (upd Z jt 1)), (wa, aI cI n WY), (ea, aI cI n (upd EN t ((T2 (t + 2)).1 16))), (pa, aI cI n (upd RP t ((T2 (t + 2)).1 12))), (fa, aI cI n (upd FR t ((T2 (t + 2)).1 10)))] ++ LW) ++ wRace cI cT r tr k1 k2 k3 ts ad n (nI (tk + 1)) KF S U V T2) := hD
          refine lv_iinc (v := nI (t + 1)) (lv' := [(15, .int (nI (t + 1))), (13, .int (cFronts T2 (t + 1))), (12, .int (nI (cnt (endB T2) (t + 1)))), (16, .int ((T2 (t + 2)).1 10)), (14, .ref za), (11, .int (nI (cEnded T2 n))), (9, .ref wa), (8, .int (nI (tk + 1))), (7, .int (nI (bk0 + cnt (dqB T T2) (t + 1)))), (6, .ref ea), (5, .ref pa), (4, .ref fa), (3, .int (nI n)), (2, .ref sm), (1, .ref r), (0, .ref b)]) hx hb dL_law_789 hl (k := 3) rfl ((nI_1 t)) (by decide) rfl (fun ls hl => ?_)
          refine lv_goto (tgt := 242) hx hb dL_law_792 (by decide) ?_
          refine ih (t + 1) (by omega) (by omega) _ _ _ _ _ _ H locs ls (mix_up (A := fun j => (T2 (j + 2)).1 10) hFR) (mix_up (A := fun j => (T2 (j + 2)).1 12) hRP) (mix_up (A := fun j => (T2 (j + 2)).1 16) hEN) (fun k hk j hj ek => ?_) (by omega) (by omega) hP hD hS (lv_sub hl [0, 4, 1, 2, 5, 6, 7, 8, 9, 10, 11, 12, 13, 14, 15] rfl)
          by_cases ej : j = jt
          · subst ej; exact pk_us
          · rw [pk_un ej]
            rcases Nat.lt_or_ge k t with z | z
            · exact hZ k z j hj ek
            · have ekt : k = t := by omega
              subst ekt
              exact absurd (nI_inj' (by omega) (by omega) (ek.symm.trans ejt)) ej
        refine lv_iload hx hb dL_law_754 (lv_at hl 4 rfl) ?_
        refine lv_aload hx hb dL_law_756 (lv_at hl 9 rfl) ?_
        refine lv_iload hx hb dL_law_758 (lv_at hl 1 rfl) ?_
        refine sp_iald hx hb hX.1.1 hP 2 0 rfl rfl (ht) (by omega) dL_law_760 ?_
        refine sp_top (show upd EN t ((T2 (t + 2)).1 16) t = (T2 (t + 2)).1 16 from pk_us) ?_
        refine lv_if_lt (tgt := 768) hx hb dL_law_761 (by decide) (fun h8 => ?_) (fun h8 => ?_)
        · skip
          refine lv_iconst (v := nI 0) hx hb dL_law_768 (by decide) ?_
          refine lv_iadd hx hb dL_law_769 ?_
          refine sp_top (show (nI (cnt (endB T2) t)) + (nI 0) = nI (cnt (endB T2) t + 0) from nI_add (cnt (endB T2) t) 0) ?_
          have e9 : cnt (endB T2) t + 0 = cnt (endB T2) (t + 1) := by have h9 := cnt_f (q := endB T2) (k := t) (decide_eq_false (fun z => z h8)); omega
          refine sp_top (show nI (cnt (endB T2) t + 0) = nI (cnt (endB T2) (t + 1)) from by rw [e9]) ?_
          refine lv_istore (lv' := [(12, .int (nI (cnt (endB T2) (t + 1)))), (16, .int ((T2 (t + 2)).1 10)), (15, .int (nI t)), (14, .ref za), (13, .int (cFronts T2 t)), (11, .int (nI (cEnded T2 n))), (9, .ref wa), (8, .int (nI (tk + 1))), (7, .int (nI (bk0 + cnt (dqB T T2) (t + 1)))), (6, .ref ea), (5, .ref pa), (4, .ref fa), (3, .int (nI n)), (2, .ref sm), (1, .ref r), (0, .ref b)]) hx hb dL_law_770 hl (by decide) rfl (fun ls hl => ?_)
          exact after772 ls (lv_sub hl [0, 1, 2, 3, 4, 5, 6, 7, 8, 9, 10, 11, 12, 13, 14, 15] rfl)
        · skip
          refine lv_iconst (v := nI 1) hx hb dL_law_764 (by decide) ?_
          refine lv_goto (tgt := 769) hx hb dL_law_765 (by decide) ?_
          refine lv_iadd hx hb dL_law_769 ?_
          refine sp_top (show (nI (cnt (endB T2) t)) + (nI 1) = nI (cnt (endB T2) t + 1) from nI_add (cnt (endB T2) t) 1) ?_
          have e9 : cnt (endB T2) t + 1 = cnt (endB T2) (t + 1) := by have h9 := cnt_t (q := endB T2) (k := t) (decide_eq_true h8); omega
          refine sp_top (show nI (cnt (endB T2) t + 1) = nI (cnt (endB T2) (t + 1)) from by rw [e9]) ?_
          refine lv_istore (lv' := [(12, .int (nI (cnt (endB T2) (t + 1)))), (16, .int ((T2 (t + 2)).1 10)), (15, .int (nI t)), (14, .ref za), (13, .int (cFronts T2 t)), (11, .int (nI (cEnded T2 n))), (9, .ref wa), (8, .int (nI (tk + 1))), (7, .int (nI (bk0 + cnt (dqB T T2) (t + 1)))), (6, .ref ea), (5, .ref pa), (4, .ref fa), (3, .int (nI n)), (2, .ref sm), (1, .ref r), (0, .ref b)]) hx hb dL_law_770 hl (by decide) rfl (fun ls hl => ?_)
          exact after772 ls (lv_sub hl [0, 1, 2, 3, 4, 5, 6, 7, 8, 9, 10, 11, 12, 13, 14, 15] rfl)
      have after655 : ∀ (c3 s3 : Nat) (H : Heap) (locs : List Loc) (ls : Array Slot), c3 ≤ c0 + 70 * t + 56 → s3 ≤ s0 + 420 * t + 336 → va_P D vwCl (([(za, aI cZ n Z), (wa, aI cI n WY), (ea, aI cI n EN), (pa, aI cI n RP), (fa, aI cI n FR)] ++ LW) ++ wRace cI cT r tr k1 k2 k3 ts ad n (nI (tk + 1)) KF S U V T2) H → va_D (fun q : Nat => s.heap.size ≤ q) (([(za, aI cZ n Z), (wa, aI cI n WY), (ea, aI cI n EN), (pa, aI cI n RP), (fa, aI cI n FR)] ++ LW) ++ wRace cI cT r tr k1 k2 k3 ts ad n (nI (tk + 1)) KF S U V T2) → va_S (fun q : Nat => s.heap.size ≤ q) s.heap H locs → lv_has ls 22 [(16, .int ((T2 (t + 2)).1 10)), (15, .int (nI t)), (14, .ref za), (13, .int (cFronts T2 t)), (12, .int (nI (cnt (endB T2) t))), (11, .int (nI (cEnded T2 n))), (9, .ref wa), (8, .int (nI (tk + 1))), (7, .int (nI (bk0 + cnt (dqB T T2) (t + 1)))), (6, .ref ea), (5, .ref pa), (4, .ref fa), (3, .int (nI n)), (2, .ref sm), (1, .ref r), (0, .ref b)] → W p l e room_1 s m args below meth c H locs  c3 s3 Q (F0 m 655 ls []) := by
        intro c3 s3 H locs ls hc3 hs3 hP hD hS hl
        refine lv_aload_n hx hb dL_law_655 rfl (lv_at hl 14 rfl) ?_
        refine lv_iload hx hb dL_law_656 (lv_at hl 1 rfl) ?_
        refine lv_bipush (v := 8) hx hb dL_law_658 (by decide) ?_
        refine pl_sO (W0 := ([(za, aI cZ n Z), (wa, aI cI n WY), (ea, aI cI n EN), (pa, aI cI n RP), (fa, aI cI n FR)] ++ LW)) (w' := wRace cI cT r tr k1 k2 k3 ts ad n (nI (tk + 1)) KF S U V T2) (rest := []) (As := [.int (nI t), .int 8]) ⟨hx, hb, hml, hown, hts⟩ (mX2_team l D cI cT hl9 H.size r tr k1 k2 k3 ts ad n (by omega) (nI (tk + 1)) KF S U V T2 (hAT2.tm) (nI t) 8) (cwV 2 hts gL_law_X2_team rfl rfl rfl (by decide +kernel) ⟨Nat.le_of_ble_eq_true rfl, Nat.le_of_ble_eq_true rfl⟩) (tm_8 ht hn4) hX.1 hXZ hXS hP hD hS hA (xb_fst rfl cI ad _ _ _) (ci := 2) rfl rfl rfl rfl hl.1 rfl (Nat.le_of_ble_eq_true rfl) dL_law_660 ⟨by decide, by decide⟩ ⟨show c3 + 2 ≤ 600086 by omega, show s3 + 12 ≤ 7301442 by omega⟩ (fun H locs hP hD hS => ?_)
        refine lv_if_lt (tgt := 670) hx hb dL_law_663 (by decide) (fun h8 => ?_) (fun h8 => ?_)
        · skip
          refine lv_iconst (v := 0) hx hb dL_law_670 (by decide) ?_
          refine lv_iload hx hb dL_law_671 (lv_at hl 0 rfl) ?_
          refine lv_aload_n hx hb dL_law_673 rfl (lv_at hl 13 rfl) ?_
          refine va_get (D := D) (ci := 3) (v := .int (nI len)) (C := RX3) (T := TX3) (N := 5) hx hb hts hiX3 hown hX.2.1 hP (qs + 5) (show _ = some (sm, oSv 0 (nI len) 0 g9 (.ref tt)) from pl_at hSM) rfl 1 (by decide) (hts (.fieldLink RL 22 "SledgeRaceLaw$Sim" "track" "I") (by decide +kernel)) (fun _ h9 => h9) rfl dL_law_674 ?_
          refine lv_icmp_lt (tgt := 684) hx hb dL_law_677 (by decide) (fun _ => ?_) (fun c => absurd (hte.mp h8) c)
          refine lv_iconst (v := 0) hx hb dL_law_684 (by decide) ?_
          refine lv_icmp_ne (tgt := 720) hx hb dL_law_685 (by decide) (fun c => absurd (by decide) c) (fun _ => ?_)
          refine lv_aload hx hb dL_law_688 (lv_at hl 9 rfl) ?_
          refine lv_iload hx hb dL_law_690 (lv_at hl 1 rfl) ?_
          refine sp_iald hx hb hX.1.1 hP 2 0 rfl rfl (ht) (by omega) dL_law_692 ?_
          refine lx_if_ge (tgt := 722) hx hb dL_law_693 (by decide) (fun hen => ?_) (fun hen => ?_)
          · skip
            exact after722 _ _ H locs ls (by omega) (by omega) hP hD hS (lv_sub hl [0, 1, 2, 3, 4, 5, 6, 7, 8, 9, 10, 11, 12, 13, 14, 15] rfl)
          · skip
            refine lv_aload_n hx hb dL_law_696 rfl (lv_at hl 14 rfl) ?_
            refine lv_iload hx hb dL_law_697 (lv_at hl 1 rfl) ?_
            refine lv_bipush (v := 8) hx hb dL_law_699 (by decide) ?_
            refine pl_sO (W0 := ([(za, aI cZ n Z), (wa, aI cI n WY), (ea, aI cI n EN), (pa, aI cI n RP), (fa, aI cI n FR)] ++ LW)) (w' := wRace cI cT r tr k1 k2 k3 ts ad n (nI (tk + 1)) KF S U V T2) (rest := []) (As := [.int (nI t), .int 8]) ⟨hx, hb, hml, hown, hts⟩ (mX2_team l D cI cT hl9 H.size r tr k1 k2 k3 ts ad n (by omega) (nI (tk + 1)) KF S U V T2 (hAT2.tm) (nI t) 8) (cwV 2 hts gL_law_X2_team rfl rfl rfl (by decide +kernel) ⟨Nat.le_of_ble_eq_true rfl, Nat.le_of_ble_eq_true rfl⟩) (tm_8 ht hn4) hX.1 hXZ hXS hP hD hS hA (xb_fst rfl cI ad _ _ _) (ci := 2) rfl rfl rfl rfl hl.1 rfl (Nat.le_of_ble_eq_true rfl) dL_law_701 ⟨by decide, by decide⟩ ⟨show c3 + 2 + 2 ≤ 600086 by omega, show s3 + 12 + 12 ≤ 7301442 by omega⟩ (fun H locs hP hD hS => ?_)
            refine lv_if_lt (tgt := 722) hx hb dL_law_704 (by decide) (fun _ => ?_) (fun c => absurd h8 c)
            exact after722 _ _ H locs ls (by omega) (by omega) hP hD hS (lv_sub hl [0, 1, 2, 3, 4, 5, 6, 7, 8, 9, 10, 11, 12, 13, 14, 15] rfl)
        · skip
          refine lv_iconst (v := 1) hx hb dL_law_666 (by decide) ?_
          refine lv_goto (tgt := 671) hx hb dL_law_667 (by decide) ?_
          refine lv_iload hx hb dL_law_671 (lv_at hl 0 rfl) ?_
          refine lv_aload_n hx hb dL_law_673 rfl (lv_at hl 13 rfl) ?_
          refine va_get (D := D) (ci := 3) (v := .int (nI len)) (C := RX3) (T := TX3) (N := 5) hx hb hts hiX3 hown hX.2.1 hP (qs + 5) (show _ = some (sm, oSv 0 (nI len) 0 g9 (.ref tt)) from pl_at hSM) rfl 1 (by decide) (hts (.fieldLink RL 22 "SledgeRaceLaw$Sim" "track" "I") (by decide +kernel)) (fun _ h9 => h9) rfl dL_law_674 ?_
          refine lv_icmp_lt (tgt := 684) hx hb dL_law_677 (by decide) (fun c => absurd c (fun z => h8 (hte.mpr z))) (fun _ => ?_)
          refine lv_iconst (v := 1) hx hb dL_law_680 (by decide) ?_
          refine lv_goto (tgt := 685) hx hb dL_law_681 (by decide) ?_
          refine lv_icmp_ne (tgt := 720) hx hb dL_law_685 (by decide) (fun c => absurd (by decide) c) (fun _ => ?_)
          refine lv_aload hx hb dL_law_688 (lv_at hl 9 rfl) ?_
          refine lv_iload hx hb dL_law_690 (lv_at hl 1 rfl) ?_
          refine sp_iald hx hb hX.1.1 hP 2 0 rfl rfl (ht) (by omega) dL_law_692 ?_
          refine lx_if_ge (tgt := 722) hx hb dL_law_693 (by decide) (fun hen => ?_) (fun hen => ?_)
          · skip
            exact after722 _ _ H locs ls (by omega) (by omega) hP hD hS (lv_sub hl [0, 1, 2, 3, 4, 5, 6, 7, 8, 9, 10, 11, 12, 13, 14, 15] rfl)
          · skip
            refine lv_aload_n hx hb dL_law_696 rfl (lv_at hl 14 rfl) ?_
            refine lv_iload hx hb dL_law_697 (lv_at hl 1 rfl) ?_
            refine lv_bipush (v := 8) hx hb dL_law_699 (by decide) ?_
            refine pl_sO (W0 := ([(za, aI cZ n Z), (wa, aI cI n WY), (ea, aI cI n EN), (pa, aI cI n RP), (fa, aI cI n FR)] ++ LW)) (w' := wRace cI cT r tr k1 k2 k3 ts ad n (nI (tk + 1)) KF S U V T2) (rest := []) (As := [.int (nI t), .int 8]) ⟨hx, hb, hml, hown, hts⟩ (mX2_team l D cI cT hl9 H.size r tr k1 k2 k3 ts ad n (by omega) (nI (tk + 1)) KF S U V T2 (hAT2.tm) (nI t) 8) (cwV 2 hts gL_law_X2_team rfl rfl rfl (by decide +kernel) ⟨Nat.le_of_ble_eq_true rfl, Nat.le_of_ble_eq_true rfl⟩) (tm_8 ht hn4) hX.1 hXZ hXS hP hD hS hA (xb_fst rfl cI ad _ _ _) (ci := 2) rfl rfl rfl rfl hl.1 rfl (Nat.le_of_ble_eq_true rfl) dL_law_701 ⟨by decide, by decide⟩ ⟨show c3 + 2 + 2 ≤ 600086 by omega, show s3 + 12 + 12 ≤ 7301442 by omega⟩ (fun H locs hP hD hS => ?_)
            refine lv_if_lt (tgt := 722) hx hb dL_law_704 (by decide) (fun c => absurd c h8) (fun _ => ?_)
            refine lv_aload_n hx hb dL_law_707 rfl (lv_at hl 14 rfl) ?_
            refine lv_iload hx hb dL_law_708 (lv_at hl 1 rfl) ?_
            refine lv_bipush (v := 8) hx hb dL_law_710 (by decide) ?_
            refine pl_sO (W0 := ([(za, aI cZ n Z), (wa, aI cI n WY), (ea, aI cI n EN), (pa, aI cI n RP), (fa, aI cI n FR)] ++ LW)) (w' := wRace cI cT r tr k1 k2 k3 ts ad n (nI (tk + 1)) KF S U V T2) (rest := []) (As := [.int (nI t), .int 8]) ⟨hx, hb, hml, hown, hts⟩ (mX2_team l D cI cT hl9 H.size r tr k1 k2 k3 ts ad n (by omega) (nI (tk + 1)) KF S U V T2 (hAT2.tm) (nI t) 8) (cwV 2 hts gL_law_X2_team rfl rfl rfl (by decide +kernel) ⟨Nat.le_of_ble_eq_true rfl, Nat.le_of_ble_eq_true rfl⟩) (tm_8 ht hn4) hX.1 hXZ hXS hP hD hS hA (xb_fst rfl cI ad _ _ _) (ci := 2) rfl rfl rfl rfl hl.1 rfl (Nat.le_of_ble_eq_true rfl) dL_law_712 ⟨by decide, by decide⟩ ⟨show c3 + 2 + 2 + 2 ≤ 600086 by omega, show s3 + 12 + 12 + 12 ≤ 7301442 by omega⟩ (fun H locs hP hD hS => ?_)
            refine lv_iload hx hb dL_law_715 (lv_at hl 7 rfl) ?_
            refine lv_icmp_eq (tgt := 722) hx hb dL_law_717 (by decide) (fun _ => ?_) (fun c => absurd ((k6 (by rw [← hENt]; exact hen)).resolve_left h8) c)
            exact after722 _ _ H locs ls (by omega) (by omega) hP hD hS (lv_sub hl [0, 1, 2, 3, 4, 5, 6, 7, 8, 9, 10, 11, 12, 13, 14, 15] rfl)
      have after623 : ∀ (c3 s3 : Nat) (H : Heap) (locs : List Loc) (ls : Array Slot), c3 ≤ c0 + 70 * t + 52 → s3 ≤ s0 + 420 * t + 312 → va_P D vwCl (([(za, aI cZ n Z), (wa, aI cI n WY), (ea, aI cI n EN), (pa, aI cI n RP), (fa, aI cI n FR)] ++ LW) ++ wRace cI cT r tr k1 k2 k3 ts ad n (nI (tk + 1)) KF S U V T2) H → va_D (fun q : Nat => s.heap.size ≤ q) (([(za, aI cZ n Z), (wa, aI cI n WY), (ea, aI cI n EN), (pa, aI cI n RP), (fa, aI cI n FR)] ++ LW) ++ wRace cI cT r tr k1 k2 k3 ts ad n (nI (tk + 1)) KF S U V T2) → va_S (fun q : Nat => s.heap.size ≤ q) s.heap H locs → lv_has ls 22 [(16, .int ((T2 (t + 2)).1 10)), (15, .int (nI t)), (14, .ref za), (13, .int (cFronts T2 t)), (12, .int (nI (cnt (endB T2) t))), (11, .int (nI (cEnded T2 n))), (9, .ref wa), (8, .int (nI (tk + 1))), (7, .int (nI (bk0 + cnt (dqB T T2) (t + 1)))), (6, .ref ea), (5, .ref pa), (4, .ref fa), (3, .int (nI n)), (2, .ref sm), (1, .ref r), (0, .ref b)] → W p l e room_1 s m args below meth c H locs  c3 s3 Q (F0 m 623 ls []) := by
        intro c3 s3 H locs ls hc3 hs3 hP hD hS hl
        refine lv_aload hx hb dL_law_623 (lv_at hl 9 rfl) ?_
        refine lv_iload hx hb dL_law_625 (lv_at hl 1 rfl) ?_
        refine sp_iald hx hb hX.1.1 hP 2 0 rfl rfl (ht) (by omega) dL_law_627 ?_
        refine lv_if_lt (tgt := 655) hx hb dL_law_628 (by decide) (fun hen => ?_) (fun hen => ?_)
        · skip
          exact after655 _ _ H locs ls (by omega) (by omega) hP hD hS hl
        · skip
          have h5 := k5 (by rw [← hENt]; exact hen)
          refine lv_aload_n hx hb dL_law_631 rfl (lv_at hl 14 rfl) ?_
          refine lv_iload hx hb dL_law_632 (lv_at hl 1 rfl) ?_
          refine lv_bipush (v := 8) hx hb dL_law_634 (by decide) ?_
          refine pl_sO (W0 := ([(za, aI cZ n Z), (wa, aI cI n WY), (ea, aI cI n EN), (pa, aI cI n RP), (fa, aI cI n FR)] ++ LW)) (w' := wRace cI cT r tr k1 k2 k3 ts ad n (nI (tk + 1)) KF S U V T2) (rest := []) (As := [.int (nI t), .int 8]) ⟨hx, hb, hml, hown, hts⟩ (mX2_team l D cI cT hl9 H.size r tr k1 k2 k3 ts ad n (by omega) (nI (tk + 1)) KF S U V T2 (hAT2.tm) (nI t) 8) (cwV 2 hts gL_law_X2_team rfl rfl rfl (by decide +kernel) ⟨Nat.le_of_ble_eq_true rfl, Nat.le_of_ble_eq_true rfl⟩) (tm_8 ht hn4) hX.1 hXZ hXS hP hD hS hA (xb_fst rfl cI ad _ _ _) (ci := 2) rfl rfl rfl rfl hl.1 rfl (Nat.le_of_ble_eq_true rfl) dL_law_636 ⟨by decide, by decide⟩ ⟨show c3 + 2 ≤ 600086 by omega, show s3 + 12 ≤ 7301442 by omega⟩ (fun H locs hP hD hS => ?_)
          refine lv_aload hx hb dL_law_639 (lv_at hl 9 rfl) ?_
          refine lv_iload hx hb dL_law_641 (lv_at hl 1 rfl) ?_
          refine sp_iald hx hb hX.1.1 hP 2 0 rfl rfl (ht) (by omega) dL_law_643 ?_
          refine lv_icmp_ne (tgt := 720) hx hb dL_law_644 (by decide) (fun c => absurd (by rw [hENt]; exact h5.1) c) (fun _ => ?_)
          refine lv_aload hx hb dL_law_647 (lv_at hl 6 rfl) ?_
          refine lv_iload hx hb dL_law_649 (lv_at hl 1 rfl) ?_
          refine sp_iald hx hb hX.1.1 hP 1 0 rfl rfl (ht) (by omega) dL_law_651 ?_
          refine lv_if_ne (tgt := 720) hx hb dL_law_652 (by decide) (fun c => absurd ((hWY t ht).trans h5.2) c) (fun _ => ?_)
          exact after655 _ _ H locs ls (by omega) (by omega) hP hD hS (lv_sub hl [0, 1, 2, 3, 4, 5, 6, 7, 8, 9, 10, 11, 12, 13, 14, 15] rfl)
      refine lv_iload hx hb dL_law_381 (lv_at hl 3 rfl) ?_
      refine lv_aload hx hb dL_law_383 (lv_at hl 14 rfl) ?_
      refine lv_iload hx hb dL_law_385 (lv_at hl 4 rfl) ?_
      refine sp_iald hx hb hX.1.1 hP 4 0 rfl rfl (ht) (by omega) dL_law_387 ?_
      refine lv_aload hx hb dL_law_388 (lv_at hl 9 rfl) ?_
      refine lv_iload hx hb dL_law_390 (lv_at hl 4 rfl) ?_
      refine sp_iald hx hb hX.1.1 hP 1 0 rfl rfl (ht) (by omega) dL_law_392 ?_
      refine lv_iadd hx hb dL_law_393 ?_
      refine lv_icmp_ne (tgt := 489) hx hb dL_law_394 (by decide) (fun c => absurd (by rw [hFRt, hWY t ht]; exact k1x) c) (fun _ => ?_)
      refine lv_aload hx hb dL_law_397 (lv_at hl 9 rfl) ?_
      refine lv_iload hx hb dL_law_399 (lv_at hl 4 rfl) ?_
      refine sp_iald hx hb hX.1.1 hP 1 0 rfl rfl (ht) (by omega) dL_law_401 ?_
      refine lv_if_lt (tgt := 489) hx hb dL_law_402 (by decide) (fun c => absurd c (by rw [hWt]; exact nI_pos (by omega))) (fun _ => ?_)
      refine lv_aload hx hb dL_law_405 (lv_at hl 9 rfl) ?_
      refine lv_iload hx hb dL_law_407 (lv_at hl 4 rfl) ?_
      refine sp_iald hx hb hX.1.1 hP 1 0 rfl rfl (ht) (by omega) dL_law_409 ?_
      refine lv_bipush (v := 12) hx hb dL_law_410 (by decide) ?_
      refine lv_icmp_gt (tgt := 489) hx hb dL_law_412 (by decide) (fun c => absurd c (by rw [hWt]; exact nI_nlt (b := jw) (a := 12) hjw (by decide))) (fun _ => ?_)
      refine lv_aload_n hx hb dL_law_415 rfl (lv_at hl 17 rfl) ?_
      refine lv_iload hx hb dL_law_416 (lv_at hl 4 rfl) ?_
      refine lv_iconst (v := 4) hx hb dL_law_418 (by decide) ?_
      refine pl_sO (W0 := ([(za, aI cZ n Z), (wa, aI cI n WY), (ea, aI cI n EN), (pa, aI cI n RP), (fa, aI cI n FR)] ++ LW)) (w' := wRace cI cT r tr k1 k2 k3 ts ad n (nI (tk + 1)) KF S U V T2) (rest := []) (As := [.int (nI t), .int 4]) ⟨hx, hb, hml, hown, hts⟩ (mX2_team l D cI cT hl9 H.size r tr k1 k2 k3 ts ad n (by omega) (nI (tk + 1)) KF S U V T2 (hAT2.tm) (nI t) 4) (cwV 2 hts gL_law_X2_team rfl rfl rfl (by decide +kernel) ⟨Nat.le_of_ble_eq_true rfl, Nat.le_of_ble_eq_true rfl⟩) (tm_4 ht hn4) hX.1 hXZ hXS hP hD hS hA (xb_fst rfl cI ad _ _ _) (ci := 2) rfl rfl rfl rfl hl.1 rfl (Nat.le_of_ble_eq_true rfl) dL_law_419 ⟨by decide, by decide⟩ ⟨show c2 + 2 ≤ 600086 by omega, show s2 + 12 ≤ 7301442 by omega⟩ (fun H locs hP hD hS => ?_)
      refine lv_iload hx hb dL_law_422 (lv_at hl 1 rfl) ?_
      refine lv_icmp_ne (tgt := 489) hx hb dL_law_424 (by decide) (fun c => absurd (by rw [hcn, huu]) c) (fun _ => ?_)
      refine lv_aload_n hx hb dL_law_427 rfl (lv_at hl 17 rfl) ?_
      refine lv_iload hx hb dL_law_428 (lv_at hl 4 rfl) ?_
      refine lv_iconst (v := 5) hx hb dL_law_430 (by decide) ?_
      refine pl_sO (W0 := ([(za, aI cZ n Z), (wa, aI cI n WY), (ea, aI cI n EN), (pa, aI cI n RP), (fa, aI cI n FR)] ++ LW)) (w' := wRace cI cT r tr k1 k2 k3 ts ad n (nI (tk + 1)) KF S U V T2) (rest := []) (As := [.int (nI t), .int 5]) ⟨hx, hb, hml, hown, hts⟩ (mX2_team l D cI cT hl9 H.size r tr k1 k2 k3 ts ad n (by omega) (nI (tk + 1)) KF S U V T2 (hAT2.tm) (nI t) 5) (cwV 2 hts gL_law_X2_team rfl rfl rfl (by decide +kernel) ⟨Nat.le_of_ble_eq_true rfl, Nat.le_of_ble_eq_true rfl⟩) (tm_5 ht hn4) hX.1 hXZ hXS hP hD hS hA (xb_fst rfl cI ad _ _ _) (ci := 2) rfl rfl rfl rfl hl.1 rfl (Nat.le_of_ble_eq_true rfl) dL_law_431 ⟨by decide, by decide⟩ ⟨show c2 + 2 + 2 ≤ 600086 by omega, show s2 + 12 + 12 ≤ 7301442 by omega⟩ (fun H locs hP hD hS => ?_)
      refine lv_iload hx hb dL_law_434 (lv_at hl 0 rfl) ?_
      refine lv_icmp_ne (tgt := 489) hx hb dL_law_436 (by decide) (fun c => absurd (by rw [hcn, hub]) c) (fun _ => ?_)
      refine lv_iload hx hb dL_law_439 (lv_at hl 1 rfl) ?_
      refine lv_iload hx hb dL_law_441 (lv_at hl 0 rfl) ?_
      refine lv_iadd hx hb dL_law_443 ?_
      refine sp_top (show (nI uu) + (nI ub) = nI (uu + ub) from nI_add uu ub) ?_
      refine lv_aload_n hx hb dL_law_444 rfl (lv_at hl 17 rfl) ?_
      refine lv_iload hx hb dL_law_445 (lv_at hl 4 rfl) ?_
      refine lv_bipush (v := 6) hx hb dL_law_447 (by decide) ?_
      refine pl_sO (W0 := ([(za, aI cZ n Z), (wa, aI cI n WY), (ea, aI cI n EN), (pa, aI cI n RP), (fa, aI cI n FR)] ++ LW)) (w' := wRace cI cT r tr k1 k2 k3 ts ad n (nI (tk + 1)) KF S U V T2) (rest := [.int (nI (uu + ub))]) (As := [.int (nI t), .int 6]) ⟨hx, hb, hml, hown, hts⟩ (mX2_team l D cI cT hl9 H.size r tr k1 k2 k3 ts ad n (by omega) (nI (tk + 1)) KF S U V T2 (hAT2.tm) (nI t) 6) (cwV 2 hts gL_law_X2_team rfl rfl rfl (by decide +kernel) ⟨Nat.le_of_ble_eq_true rfl, Nat.le_of_ble_eq_true rfl⟩) (tm_6 ht hn4) hX.1 hXZ hXS hP hD hS hA (xb_fst rfl cI ad _ _ _) (ci := 2) rfl rfl rfl rfl hl.1 rfl (Nat.le_of_ble_eq_true rfl) dL_law_449 ⟨by decide, by decide⟩ ⟨show c2 + 2 + 2 + 2 ≤ 600086 by omega, show s2 + 12 + 12 + 12 ≤ 7301442 by omega⟩ (fun H locs hP hD hS => ?_)
      refine lv_iadd hx hb dL_law_452 ?_
      refine sp_top (show (nI (uu + ub)) + (nI (cLie (T2 (t + 2)).1 (T2 (t + 2)).2.1 (cN (T2 (t + 2))) 2)) = nI (uu + ub + cLie (T2 (t + 2)).1 (T2 (t + 2)).2.1 (cN (T2 (t + 2))) 2) from nI_add (uu + ub) (cLie (T2 (t + 2)).1 (T2 (t + 2)).2.1 (cN (T2 (t + 2))) 2)) ?_
      refine lv_aload_n hx hb dL_law_453 rfl (lv_at hl 17 rfl) ?_
      refine lv_iload hx hb dL_law_454 (lv_at hl 4 rfl) ?_
      refine lv_bipush (v := 7) hx hb dL_law_456 (by decide) ?_
      refine pl_sO (W0 := ([(za, aI cZ n Z), (wa, aI cI n WY), (ea, aI cI n EN), (pa, aI cI n RP), (fa, aI cI n FR)] ++ LW)) (w' := wRace cI cT r tr k1 k2 k3 ts ad n (nI (tk + 1)) KF S U V T2) (rest := [.int (nI (uu + ub + cLie (T2 (t + 2)).1 (T2 (t + 2)).2.1 (cN (T2 (t + 2))) 2))]) (As := [.int (nI t), .int 7]) ⟨hx, hb, hml, hown, hts⟩ (mX2_team l D cI cT hl9 H.size r tr k1 k2 k3 ts ad n (by omega) (nI (tk + 1)) KF S U V T2 (hAT2.tm) (nI t) 7) (cwV 2 hts gL_law_X2_team rfl rfl rfl (by decide +kernel) ⟨Nat.le_of_ble_eq_true rfl, Nat.le_of_ble_eq_true rfl⟩) (tm_7 ht hn4) hX.1 hXZ hXS hP hD hS hA (xb_fst rfl cI ad _ _ _) (ci := 2) rfl rfl rfl rfl hl.1 rfl (Nat.le_of_ble_eq_true rfl) dL_law_458 ⟨by decide, by decide⟩ ⟨show c2 + 2 + 2 + 2 + 2 ≤ 600086 by omega, show s2 + 12 + 12 + 12 + 12 ≤ 7301442 by omega⟩ (fun H locs hP hD hS => ?_)
      refine lv_iadd hx hb dL_law_461 ?_
      refine sp_top (show (nI (uu + ub + cLie (T2 (t + 2)).1 (T2 (t + 2)).2.1 (cN (T2 (t + 2))) 2)) + (nI (cLie (T2 (t + 2)).1 (T2 (t + 2)).2.1 (cN (T2 (t + 2))) 3)) = nI (uu + ub + cLie (T2 (t + 2)).1 (T2 (t + 2)).2.1 (cN (T2 (t + 2))) 2 + cLie (T2 (t + 2)).1 (T2 (t + 2)).2.1 (cN (T2 (t + 2))) 3) from nI_add (uu + ub + cLie (T2 (t + 2)).1 (T2 (t + 2)).2.1 (cN (T2 (t + 2))) 2) (cLie (T2 (t + 2)).1 (T2 (t + 2)).2.1 (cN (T2 (t + 2))) 3)) ?_
      refine lv_iload hx hb dL_law_462 (lv_at hl 2 rfl) ?_
      have esum : uu + ub + cLie (T2 (t + 2)).1 (T2 (t + 2)).2.1 (cN (T2 (t + 2))) 2 + cLie (T2 (t + 2)).1 (T2 (t + 2)).2.1 (cN (T2 (t + 2))) 3 = n1 := by rw [hcn, huu, hub]; omega
      refine lv_icmp_ne (tgt := 489) hx hb dL_law_464 (by decide) (fun c => absurd (congrArg nI esum) c) (fun _ => ?_)
      refine lv_aload_n hx hb dL_law_467 rfl (lv_at hl 17 rfl) ?_
      refine lv_iload hx hb dL_law_468 (lv_at hl 4 rfl) ?_
      refine lv_bipush (v := 7) hx hb dL_law_470 (by decide) ?_
      refine pl_sO (W0 := ([(za, aI cZ n Z), (wa, aI cI n WY), (ea, aI cI n EN), (pa, aI cI n RP), (fa, aI cI n FR)] ++ LW)) (w' := wRace cI cT r tr k1 k2 k3 ts ad n (nI (tk + 1)) KF S U V T2) (rest := []) (As := [.int (nI t), .int 7]) ⟨hx, hb, hml, hown, hts⟩ (mX2_team l D cI cT hl9 H.size r tr k1 k2 k3 ts ad n (by omega) (nI (tk + 1)) KF S U V T2 (hAT2.tm) (nI t) 7) (cwV 2 hts gL_law_X2_team rfl rfl rfl (by decide +kernel) ⟨Nat.le_of_ble_eq_true rfl, Nat.le_of_ble_eq_true rfl⟩) (tm_7 ht hn4) hX.1 hXZ hXS hP hD hS hA (xb_fst rfl cI ad _ _ _) (ci := 2) rfl rfl rfl rfl hl.1 rfl (Nat.le_of_ble_eq_true rfl) dL_law_472 ⟨by decide, by decide⟩ ⟨show c2 + 2 + 2 + 2 + 2 + 2 ≤ 600086 by omega, show s2 + 12 + 12 + 12 + 12 + 12 ≤ 7301442 by omega⟩ (fun H locs hP hD hS => ?_)
      refine lv_aload_n hx hb dL_law_475 rfl (lv_at hl 16 rfl) ?_
      refine va_get (D := D) (ci := 3) (v := .ref tt) (C := RX3) (T := TX3) (N := 5) hx hb hts hiX3 hown hX.2.1 hP (qs + 5) (show _ = some (sm, oSv 0 (nI len) 0 g9 (.ref tt)) from pl_at hSM) rfl 4 (by decide) (hts (.fieldLink RL 45 "SledgeRaceLaw$Sim" "teams" "[LSledgeRaceLaw$Team;") (by decide +kernel)) (fun _ h9 => h9) rfl dL_law_476 ?_
      refine lv_iload hx hb dL_law_479 (lv_at hl 4 rfl) ?_
      refine pl_lld hx hb hX hP (qt + 5) (show _ = some (tt, aQ cL n f) from pl_at hTT) ht (by omega) hta dL_law_481 ?_
      refine va_get (D := D) (ci := 4) (v := .ref ha) (C := RX4) (T := TX4) (N := 17) hx hb hts hiX4 hown hX.2.1 hP (q1 + 5) (show _ = some (ta, oYv F9 (.ref ra) ca (.ref ha) lf) from pl_at hq1) rfl 15 (by decide) (hts (.fieldLink RL 72 "SledgeRaceLaw$Team" "held" "[I") (by decide +kernel)) (fun _ h9 => h9) rfl dL_law_482 ?_
      refine va_alen hx hb hX.2.1 hP (q3 + 5) 0 (show _ = some (ha, aI cI nh1 G9) from pl_at hq3) rfl (v := nI nh1) rfl dL_law_485 ?_
      refine lx_icmp_le (tgt := 491) hx hb dL_law_486 (by decide) (fun _ => ?_) (fun c => absurd c (by rw [hcn]; exact nI_nlt hhand (by omega)))
      refine lv_aload_n hx hb dL_law_491 rfl (lv_at hl 17 rfl) ?_
      refine lv_iload hx hb dL_law_492 (lv_at hl 4 rfl) ?_
      refine lv_iconst (v := 1) hx hb dL_law_494 (by decide) ?_
      refine pl_sO (W0 := ([(za, aI cZ n Z), (wa, aI cI n WY), (ea, aI cI n EN), (pa, aI cI n RP), (fa, aI cI n FR)] ++ LW)) (w' := wRace cI cT r tr k1 k2 k3 ts ad n (nI (tk + 1)) KF S U V T2) (rest := []) (As := [.int (nI t), .int 1]) ⟨hx, hb, hml, hown, hts⟩ (mX2_team l D cI cT hl9 H.size r tr k1 k2 k3 ts ad n (by omega) (nI (tk + 1)) KF S U V T2 (hAT2.tm) (nI t) 1) (cwV 2 hts gL_law_X2_team rfl rfl rfl (by decide +kernel) ⟨Nat.le_of_ble_eq_true rfl, Nat.le_of_ble_eq_true rfl⟩) (tm_1 ht hn4) hX.1 hXZ hXS hP hD hS hA (xb_fst rfl cI ad _ _ _) (ci := 2) rfl rfl rfl rfl hl.1 rfl (Nat.le_of_ble_eq_true rfl) dL_law_495 ⟨by decide, by decide⟩ ⟨show c2 + 2 + 2 + 2 + 2 + 2 + 2 ≤ 600086 by omega, show s2 + 12 + 12 + 12 + 12 + 12 + 12 ≤ 7301442 by omega⟩ (fun H locs hP hD hS => ?_)
      refine lv_if_lt (tgt := 596) hx hb dL_law_498 (by decide) (fun c => absurd c (by rw [h11]; exact nI_pos (by omega))) (fun _ => ?_)
      refine lv_aload_n hx hb dL_law_501 rfl (lv_at hl 17 rfl) ?_
      refine lv_iload hx hb dL_law_502 (lv_at hl 4 rfl) ?_
      refine lv_iconst (v := 1) hx hb dL_law_504 (by decide) ?_
      refine pl_sO (W0 := ([(za, aI cZ n Z), (wa, aI cI n WY), (ea, aI cI n EN), (pa, aI cI n RP), (fa, aI cI n FR)] ++ LW)) (w' := wRace cI cT r tr k1 k2 k3 ts ad n (nI (tk + 1)) KF S U V T2) (rest := []) (As := [.int (nI t), .int 1]) ⟨hx, hb, hml, hown, hts⟩ (mX2_team l D cI cT hl9 H.size r tr k1 k2 k3 ts ad n (by omega) (nI (tk + 1)) KF S U V T2 (hAT2.tm) (nI t) 1) (cwV 2 hts gL_law_X2_team rfl rfl rfl (by decide +kernel) ⟨Nat.le_of_ble_eq_true rfl, Nat.le_of_ble_eq_true rfl⟩) (tm_1 ht hn4) hX.1 hXZ hXS hP hD hS hA (xb_fst rfl cI ad _ _ _) (ci := 2) rfl rfl rfl rfl hl.1 rfl (Nat.le_of_ble_eq_true rfl) dL_law_505 ⟨by decide, by decide⟩ ⟨show c2 + 2 + 2 + 2 + 2 + 2 + 2 + 2 ≤ 600086 by omega, show s2 + 12 + 12 + 12 + 12 + 12 + 12 + 12 ≤ 7301442 by omega⟩ (fun H locs hP hD hS => ?_)
      refine lv_sipush (v := 1000) hx hb dL_law_508 (by decide) ?_
      refine lv_icmp_gt (tgt := 596) hx hb dL_law_511 (by decide) (fun c => absurd c (by rw [h11]; exact nI_nlt (b := br) (a := 1000) hbr (by decide))) (fun _ => ?_)
      refine lv_aload_n hx hb dL_law_514 rfl (lv_at hl 17 rfl) ?_
      refine lv_iload hx hb dL_law_515 (lv_at hl 4 rfl) ?_
      refine lv_iconst (v := 2) hx hb dL_law_517 (by decide) ?_
      refine pl_sO (W0 := ([(za, aI cZ n Z), (wa, aI cI n WY), (ea, aI cI n EN), (pa, aI cI n RP), (fa, aI cI n FR)] ++ LW)) (w' := wRace cI cT r tr k1 k2 k3 ts ad n (nI (tk + 1)) KF S U V T2) (rest := []) (As := [.int (nI t), .int 2]) ⟨hx, hb, hml, hown, hts⟩ (mX2_team l D cI cT hl9 H.size r tr k1 k2 k3 ts ad n (by omega) (nI (tk + 1)) KF S U V T2 (hAT2.tm) (nI t) 2) (cwV 2 hts gL_law_X2_team rfl rfl rfl (by decide +kernel) ⟨Nat.le_of_ble_eq_true rfl, Nat.le_of_ble_eq_true rfl⟩) (tm_2 ht hn4) hX.1 hXZ hXS hP hD hS hA (xb_fst rfl cI ad _ _ _) (ci := 2) rfl rfl rfl rfl hl.1 rfl (Nat.le_of_ble_eq_true rfl) dL_law_518 ⟨by decide, by decide⟩ ⟨show c2 + 2 + 2 + 2 + 2 + 2 + 2 + 2 + 2 ≤ 600086 by omega, show s2 + 12 + 12 + 12 + 12 + 12 + 12 + 12 + 12 ≤ 7301442 by omega⟩ (fun H locs hP hD hS => ?_)
      refine lv_aload hx hb dL_law_521 (lv_at hl 13 rfl) ?_
      refine lv_iload hx hb dL_law_523 (lv_at hl 4 rfl) ?_
      refine sp_iald hx hb hX.1.1 hP 3 0 rfl rfl (ht) (by omega) dL_law_525 ?_
      refine lv_icmp_gt (tgt := 596) hx hb dL_law_526 (by decide) (fun c => absurd c (by rw [hRPt, ka, kb]; exact nI_nlt hba (by omega))) (fun _ => ?_)
      refine lv_aload_n hx hb dL_law_529 rfl (lv_at hl 17 rfl) ?_
      refine lv_iload hx hb dL_law_530 (lv_at hl 4 rfl) ?_
      refine lv_iconst (v := 2) hx hb dL_law_532 (by decide) ?_
      refine pl_sO (W0 := ([(za, aI cZ n Z), (wa, aI cI n WY), (ea, aI cI n EN), (pa, aI cI n RP), (fa, aI cI n FR)] ++ LW)) (w' := wRace cI cT r tr k1 k2 k3 ts ad n (nI (tk + 1)) KF S U V T2) (rest := []) (As := [.int (nI t), .int 2]) ⟨hx, hb, hml, hown, hts⟩ (mX2_team l D cI cT hl9 H.size r tr k1 k2 k3 ts ad n (by omega) (nI (tk + 1)) KF S U V T2 (hAT2.tm) (nI t) 2) (cwV 2 hts gL_law_X2_team rfl rfl rfl (by decide +kernel) ⟨Nat.le_of_ble_eq_true rfl, Nat.le_of_ble_eq_true rfl⟩) (tm_2 ht hn4) hX.1 hXZ hXS hP hD hS hA (xb_fst rfl cI ad _ _ _) (ci := 2) rfl rfl rfl rfl hl.1 rfl (Nat.le_of_ble_eq_true rfl) dL_law_533 ⟨by decide, by decide⟩ ⟨show c2 + 2 + 2 + 2 + 2 + 2 + 2 + 2 + 2 + 2 ≤ 600086 by omega, show s2 + 12 + 12 + 12 + 12 + 12 + 12 + 12 + 12 + 12 ≤ 7301442 by omega⟩ (fun H locs hP hD hS => ?_)
      refine lv_bipush (v := 10) hx hb dL_law_536 (by decide) ?_
      refine lv_icmp_lt (tgt := 596) hx hb dL_law_538 (by decide) (fun c => absurd c (by rw [h12]; exact nI_nlt (a := ro) (b := 10) hro1 (by omega))) (fun _ => ?_)
      refine lv_aload_n hx hb dL_law_541 rfl (lv_at hl 17 rfl) ?_
      refine lv_iload hx hb dL_law_542 (lv_at hl 4 rfl) ?_
      refine lv_iconst (v := 3) hx hb dL_law_544 (by decide) ?_
      refine pl_sO (W0 := ([(za, aI cZ n Z), (wa, aI cI n WY), (ea, aI cI n EN), (pa, aI cI n RP), (fa, aI cI n FR)] ++ LW)) (w' := wRace cI cT r tr k1 k2 k3 ts ad n (nI (tk + 1)) KF S U V T2) (rest := []) (As := [.int (nI t), .int 3]) ⟨hx, hb, hml, hown, hts⟩ (mX2_team l D cI cT hl9 H.size r tr k1 k2 k3 ts ad n (by omega) (nI (tk + 1)) KF S U V T2 (hAT2.tm) (nI t) 3) (cwV 2 hts gL_law_X2_team rfl rfl rfl (by decide +kernel) ⟨Nat.le_of_ble_eq_true rfl, Nat.le_of_ble_eq_true rfl⟩) (tm_3 ht hn4) hX.1 hXZ hXS hP hD hS hA (xb_fst rfl cI ad _ _ _) (ci := 2) rfl rfl rfl rfl hl.1 rfl (Nat.le_of_ble_eq_true rfl) dL_law_545 ⟨by decide, by decide⟩ ⟨show c2 + 2 + 2 + 2 + 2 + 2 + 2 + 2 + 2 + 2 + 2 ≤ 600086 by omega, show s2 + 12 + 12 + 12 + 12 + 12 + 12 + 12 + 12 + 12 + 12 ≤ 7301442 by omega⟩ (fun H locs hP hD hS => ?_)
      refine lv_if_lt (tgt := 596) hx hb dL_law_548 (by decide) (fun c => absurd c (by rw [h13]; exact nI_pos (by omega))) (fun _ => ?_)
      refine lv_aload_n hx hb dL_law_551 rfl (lv_at hl 17 rfl) ?_
      refine lv_iload hx hb dL_law_552 (lv_at hl 4 rfl) ?_
      refine lv_iconst (v := 3) hx hb dL_law_554 (by decide) ?_
      refine pl_sO (W0 := ([(za, aI cZ n Z), (wa, aI cI n WY), (ea, aI cI n EN), (pa, aI cI n RP), (fa, aI cI n FR)] ++ LW)) (w' := wRace cI cT r tr k1 k2 k3 ts ad n (nI (tk + 1)) KF S U V T2) (rest := []) (As := [.int (nI t), .int 3]) ⟨hx, hb, hml, hown, hts⟩ (mX2_team l D cI cT hl9 H.size r tr k1 k2 k3 ts ad n (by omega) (nI (tk + 1)) KF S U V T2 (hAT2.tm) (nI t) 3) (cwV 2 hts gL_law_X2_team rfl rfl rfl (by decide +kernel) ⟨Nat.le_of_ble_eq_true rfl, Nat.le_of_ble_eq_true rfl⟩) (tm_3 ht hn4) hX.1 hXZ hXS hP hD hS hA (xb_fst rfl cI ad _ _ _) (ci := 2) rfl rfl rfl rfl hl.1 rfl (Nat.le_of_ble_eq_true rfl) dL_law_555 ⟨by decide, by decide⟩ ⟨show c2 + 2 + 2 + 2 + 2 + 2 + 2 + 2 + 2 + 2 + 2 + 2 ≤ 600086 by omega, show s2 + 12 + 12 + 12 + 12 + 12 + 12 + 12 + 12 + 12 + 12 + 12 ≤ 7301442 by omega⟩ (fun H locs hP hD hS => ?_)
      refine lv_bipush (v := 14) hx hb dL_law_558 (by decide) ?_
      refine lv_icmp_gt (tgt := 596) hx hb dL_law_560 (by decide) (fun c => absurd c (by rw [h13]; exact nI_nlt (b := kn) (a := 14) hkn (by decide))) (fun _ => ?_)
      obtain ⟨xa, xb, xc, xd, hxa, hxb, hxc, -, hxa9, hxb9, hxc9, -⟩ := hF.2.2.2.2
      refine lv_aload_n hx hb dL_law_563 rfl (lv_at hl 17 rfl) ?_
      refine lv_iload hx hb dL_law_564 (lv_at hl 4 rfl) ?_
      refine lv_iconst (v := 0) hx hb dL_law_566 (by decide) ?_
      refine pl_sO (W0 := ([(za, aI cZ n Z), (wa, aI cI n WY), (ea, aI cI n EN), (pa, aI cI n RP), (fa, aI cI n FR)] ++ LW)) (w' := wRace cI cT r tr k1 k2 k3 ts ad n (nI (tk + 1)) KF S U V T2) (rest := []) (As := [.int (nI t), .int 0]) ⟨hx, hb, hml, hown, hts⟩ (mX2_next l D cI cT hl9 H.size r tr k1 k2 k3 ts ad n (by omega) (nI (tk + 1)) KF S U V T2 (hAT2.tm) ns hTk.2.2.1 hTk.1 (nI t) 0) (cwV 2 hts gL_law_X2_next rfl rfl rfl (by decide +kernel) ⟨Nat.le_of_ble_eq_true rfl, Nat.le_of_ble_eq_true rfl⟩) (nx_0 ht hn4) hX.1 hXZ hXS hP hD hS hA (xb_fst rfl cI ad _ _ _) (ci := 2) rfl rfl rfl rfl hl.1 rfl (Nat.le_of_ble_eq_true rfl) dL_law_567 ⟨by decide, by decide⟩ ⟨show c2 + 2 + 2 + 2 + 2 + 2 + 2 + 2 + 2 + 2 + 2 + 2 + 2 ≤ 600086 by omega, show s2 + 12 + 12 + 12 + 12 + 12 + 12 + 12 + 12 + 12 + 12 + 12 + 12 ≤ 7301442 by omega⟩ (fun H locs hP hD hS => ?_)
      refine lv_if_lt (tgt := 596) hx hb dL_law_570 (by decide) (fun c => absurd c (pullR hxa hxb hxc h11 hxa9 hxb9 hxc9 hbr)) (fun _ => ?_)
      refine lv_aload_n hx hb dL_law_573 rfl (lv_at hl 17 rfl) ?_
      refine lv_iload hx hb dL_law_574 (lv_at hl 4 rfl) ?_
      refine lv_iconst (v := 1) hx hb dL_law_576 (by decide) ?_
      refine pl_sO (W0 := ([(za, aI cZ n Z), (wa, aI cI n WY), (ea, aI cI n EN), (pa, aI cI n RP), (fa, aI cI n FR)] ++ LW)) (w' := wRace cI cT r tr k1 k2 k3 ts ad n (nI (tk + 1)) KF S U V T2) (rest := []) (As := [.int (nI t), .int 1]) ⟨hx, hb, hml, hown, hts⟩ (mX2_next l D cI cT hl9 H.size r tr k1 k2 k3 ts ad n (by omega) (nI (tk + 1)) KF S U V T2 (hAT2.tm) ns hTk.2.2.1 hTk.1 (nI t) 1) (cwV 2 hts gL_law_X2_next rfl rfl rfl (by decide +kernel) ⟨Nat.le_of_ble_eq_true rfl, Nat.le_of_ble_eq_true rfl⟩) (nx_1 ht hn4) hX.1 hXZ hXS hP hD hS hA (xb_fst rfl cI ad _ _ _) (ci := 2) rfl rfl rfl rfl hl.1 rfl (Nat.le_of_ble_eq_true rfl) dL_law_577 ⟨by decide, by decide⟩ ⟨show c2 + 2 + 2 + 2 + 2 + 2 + 2 + 2 + 2 + 2 + 2 + 2 + 2 + 2 ≤ 600086 by omega, show s2 + 12 + 12 + 12 + 12 + 12 + 12 + 12 + 12 + 12 + 12 + 12 + 12 + 12 ≤ 7301442 by omega⟩ (fun H locs hP hD hS => ?_)
      refine lv_aload_n hx hb dL_law_580 rfl (lv_at hl 16 rfl) ?_
      refine va_get (D := D) (ci := 3) (v := .ref tt) (C := RX3) (T := TX3) (N := 5) hx hb hts hiX3 hown hX.2.1 hP (qs + 5) (show _ = some (sm, oSv 0 (nI len) 0 g9 (.ref tt)) from pl_at hSM) rfl 4 (by decide) (hts (.fieldLink RL 45 "SledgeRaceLaw$Sim" "teams" "[LSledgeRaceLaw$Team;") (by decide +kernel)) (fun _ h9 => h9) rfl dL_law_581 ?_
      refine lv_iload hx hb dL_law_584 (lv_at hl 4 rfl) ?_
      refine pl_lld hx hb hX hP (qt + 5) (show _ = some (tt, aQ cL n f) from pl_at hTT) ht (by omega) hta dL_law_586 ?_
      refine va_get (D := D) (ci := 4) (v := .int (F9 1)) (C := RX4) (T := TX4) (N := 17) hx hb hts hiX4 hown hX.2.1 hP (q1 + 5) (show _ = some (ta, oYv F9 (.ref ra) ca (.ref ha) lf) from pl_at hq1) rfl 1 (by decide) (hts (.fieldLink RL 53 "SledgeRaceLaw$Team" "weight" "I") (by decide +kernel)) (fun _ h9 => h9) rfl dL_law_587 ?_
      refine sp_top (show F9 1 = nI w9 from hF91) ?_
      refine lv_bipush (v := 10) hx hb dL_law_590 (by decide) ?_
      refine lv_idiv hx hb dL_law_592 (by decide) ?_
      have hgr := trk_gr (S := S) hTk ((T2 (t + 2)).1 10)
      refine lx_icmp_ge (tgt := 598) hx hb dL_law_593 (by decide) (fun _ => ?_) (fun c => absurd c (by unfold cDragT; rw [hcn]; exact dragR hT2 hw9 (by omega) hgr.1 hgr.2))
      refine lv_iload hx hb dL_law_598 (lv_at hl 11 rfl) ?_
      refine lv_aload_n hx hb dL_law_600 rfl (lv_at hl 17 rfl) ?_
      refine lv_iload hx hb dL_law_601 (lv_at hl 4 rfl) ?_
      refine lv_iconst (v := 2) hx hb dL_law_603 (by decide) ?_
      refine pl_sO (W0 := ([(za, aI cZ n Z), (wa, aI cI n WY), (ea, aI cI n EN), (pa, aI cI n RP), (fa, aI cI n FR)] ++ LW)) (w' := wRace cI cT r tr k1 k2 k3 ts ad n (nI (tk + 1)) KF S U V T2) (rest := [.int (nI (bk0 + cnt (dqB T T2) t))]) (As := [.int (nI t), .int 2]) ⟨hx, hb, hml, hown, hts⟩ (mX2_team l D cI cT hl9 H.size r tr k1 k2 k3 ts ad n (by omega) (nI (tk + 1)) KF S U V T2 (hAT2.tm) (nI t) 2) (cwV 2 hts gL_law_X2_team rfl rfl rfl (by decide +kernel) ⟨Nat.le_of_ble_eq_true rfl, Nat.le_of_ble_eq_true rfl⟩) (tm_2 ht hn4) hX.1 hXZ hXS hP hD hS hA (xb_fst rfl cI ad _ _ _) (ci := 2) rfl rfl rfl rfl hl.1 rfl (Nat.le_of_ble_eq_true rfl) dL_law_604 ⟨by decide, by decide⟩ ⟨show c2 + 2 + 2 + 2 + 2 + 2 + 2 + 2 + 2 + 2 + 2 + 2 + 2 + 2 + 2 ≤ 600086 by omega, show s2 + 12 + 12 + 12 + 12 + 12 + 12 + 12 + 12 + 12 + 12 + 12 + 12 + 12 + 12 ≤ 7301442 by omega⟩ (fun H locs hP hD hS => ?_)
      refine lv_aload hx hb dL_law_607 (lv_at hl 13 rfl) ?_
      refine lv_iload hx hb dL_law_609 (lv_at hl 4 rfl) ?_
      refine sp_iald hx hb hX.1.1 hP 3 0 rfl rfl (ht) (by omega) dL_law_611 ?_
      refine lx_icmp_ge (tgt := 619) hx hb dL_law_612 (by decide) (fun hrp => ?_) (fun hrp => ?_)
      · skip
        refine lv_iconst (v := nI 0) hx hb dL_law_619 (by decide) ?_
        refine lv_iadd hx hb dL_law_620 ?_
        refine sp_top (show (nI (bk0 + cnt (dqB T T2) t)) + (nI 0) = nI (bk0 + cnt (dqB T T2) t + 0) from nI_add (bk0 + cnt (dqB T T2) t) 0) ?_
        have e9 : bk0 + cnt (dqB T T2) t + 0 = bk0 + cnt (dqB T T2) (t + 1) := by have h9 := cnt_f (q := dqB T T2) (k := t) (decide_eq_false (fun z => hrp (by rw [hRPt]; exact z))); omega
        refine sp_top (show nI (bk0 + cnt (dqB T T2) t + 0) = nI (bk0 + cnt (dqB T T2) (t + 1)) from by rw [e9]) ?_
        refine lv_istore (lv' := [(7, .int (nI (bk0 + cnt (dqB T T2) (t + 1)))), (19, .int (nI ub)), (18, .int (nI uu)), (17, .int (nI n1)), (16, .int ((T2 (t + 2)).1 10)), (15, .int (nI t)), (14, .ref za), (13, .int (cFronts T2 t)), (12, .int (nI (cnt (endB T2) t))), (11, .int (nI (cEnded T2 n))), (9, .ref wa), (8, .int (nI (tk + 1))), (6, .ref ea), (5, .ref pa), (4, .ref fa), (3, .int (nI n)), (2, .ref sm), (1, .ref r), (0, .ref b)]) hx hb dL_law_621 hl (by decide) rfl (fun ls hl => ?_)
        exact after623 _ _ H locs ls (by omega) (by omega) hP hD hS (lv_sub hl [4, 5, 6, 7, 8, 9, 10, 11, 0, 12, 13, 14, 15, 16, 17, 18] rfl)
      · skip
        refine lv_iconst (v := nI 1) hx hb dL_law_615 (by decide) ?_
        refine lv_goto (tgt := 620) hx hb dL_law_616 (by decide) ?_
        refine lv_iadd hx hb dL_law_620 ?_
        refine sp_top (show (nI (bk0 + cnt (dqB T T2) t)) + (nI 1) = nI (bk0 + cnt (dqB T T2) t + 1) from nI_add (bk0 + cnt (dqB T T2) t) 1) ?_
        have e9 : bk0 + cnt (dqB T T2) t + 1 = bk0 + cnt (dqB T T2) (t + 1) := by have h9 := cnt_t (q := dqB T T2) (k := t) (decide_eq_true (by rw [← hRPt]; exact hrp)); omega
        refine sp_top (show nI (bk0 + cnt (dqB T T2) t + 1) = nI (bk0 + cnt (dqB T T2) (t + 1)) from by rw [e9]) ?_
        refine lv_istore (lv' := [(7, .int (nI (bk0 + cnt (dqB T T2) (t + 1)))), (19, .int (nI ub)), (18, .int (nI uu)), (17, .int (nI n1)), (16, .int ((T2 (t + 2)).1 10)), (15, .int (nI t)), (14, .ref za), (13, .int (cFronts T2 t)), (12, .int (nI (cnt (endB T2) t))), (11, .int (nI (cEnded T2 n))), (9, .ref wa), (8, .int (nI (tk + 1))), (6, .ref ea), (5, .ref pa), (4, .ref fa), (3, .int (nI n)), (2, .ref sm), (1, .ref r), (0, .ref b)]) hx hb dL_law_621 hl (by decide) rfl (fun ls hl => ?_)
        exact after623 _ _ H locs ls (by omega) (by omega) hP hD hS (lv_sub hl [4, 5, 6, 7, 8, 9, 10, 11, 0, 12, 13, 14, 15, 16, 17, 18] rfl)
