/-! p20: the law's body: the end of a tick, the loop, the end -/
theorem start_0 {T T3 : Nat → TV} {n : Nat} (h : ∀ t, t < n → T3 (t + 2) = cStartN (T (t + 2))) : cEnded T3 n = 0 ∧ ∀ i, i ≤ n → cFronts T3 i = 0 := by
  constructor
  · have e : cEnded T3 n = cnt (fun _ => false) n := cnt_cong (fun t ht => by rw [h t ht]; rfl)
    rw [e]
    have z : ∀ m, cnt (fun _ => false) m = 0 := fun m => by
      induction m with
      | zero => rfl
      | succ m ih => show cnt (fun _ => false) m + (if false = true then 1 else 0) = 0; rw [ih]; rfl
    exact z n
  · intro i
    induction i with
    | zero => intro _; rfl
    | succ i ih =>
      intro hi
      show cFronts T3 i + (T3 (i + 2)).1 10 = 0
      rw [ih (by omega), h i (by omega)]
      rfl
set_option maxHeartbeats 8000000 in
set_option maxRecDepth 100000 in
theorem law_6 {p : Program} {l : Launch} {e : Env} {s : State} {m : MethodId} {args : Array Value} {below : List Frame} {meth : Method} {c : Code} {D : va_G} {cI cT cL cG cZ : ClassId} {Q : State → Prop} {r tr k1 k2 k3 ts b sm tt fa pa ea n ns len : Nat} {ad : Nat → Nat → Nat} {KF S U V : Nat → Int32} {f : Nat → Option Nat} {LW : va_W} (C : LX p l s m args c D cI cT cL cG cZ) (Y : LYx cL LW sm tt f n ns KF U V len) {tk bk wa za c0 s0 Q9 : Nat} {T2 : Nat → TV} {FR RP EN WY Z : Nat → Int32} (hc0 : c0 ≤ 200000) (hs0 : s0 ≤ 2000000) (htk : tk < 120) (hAT2 : ATx cI f LW T2 n (tk + 1) (nI len)) (hZ : ∀ j, j < n → Z j = 1) (hQ9 : cBroke T2 n = nI Q9) (hbk : bk ≤ Q9) (hQ9b : Q9 ≤ 100000) (kk : ∀ (c1 s1 : Nat) (H : Heap) (locs : List Loc) (ls : Array Slot), c1 ≤ c0 + 4 → s1 ≤ s0 + 24 → va_P D vwCl (([(za, aI cZ n Z), (wa, aI cI n WY), (ea, aI cI n EN), (pa, aI cI n RP), (fa, aI cI n FR)] ++ LW) ++ wRace cI cT r tr k1 k2 k3 ts ad n (nI (tk + 1)) KF S U V T2) H → va_D (fun q : Nat => s.heap.size ≤ q) (([(za, aI cZ n Z), (wa, aI cI n WY), (ea, aI cI n EN), (pa, aI cI n RP), (fa, aI cI n FR)] ++ LW) ++ wRace cI cT r tr k1 k2 k3 ts ad n (nI (tk + 1)) KF S U V T2) → va_S (fun q : Nat => s.heap.size ≤ q) s.heap H locs → lv_has ls 22 [(13, .int (cFronts T2 n)), (9, .ref wa), (8, .int (nI (tk + 1))), (7, .int (nI bk)), (6, .ref ea), (5, .ref pa), (4, .ref fa), (3, .int (nI n)), (2, .ref sm), (1, .ref r), (0, .ref b)] → W p l e room_1 s m args below meth c H locs  c1 s1 Q (F0 m 851 ls [])) : ∀ (H : Heap) (locs : List Loc) (ls : Array Slot), va_P D vwCl (([(za, aI cZ n Z), (wa, aI cI n WY), (ea, aI cI n EN), (pa, aI cI n RP), (fa, aI cI n FR)] ++ LW) ++ wRace cI cT r tr k1 k2 k3 ts ad n (nI (tk + 1)) KF S U V T2) H → va_D (fun q : Nat => s.heap.size ≤ q) (([(za, aI cZ n Z), (wa, aI cI n WY), (ea, aI cI n EN), (pa, aI cI n RP), (fa, aI cI n FR)] ++ LW) ++ wRace cI cT r tr k1 k2 k3 ts ad n (nI (tk + 1)) KF S U V T2) → va_S (fun q : Nat => s.heap.size ≤ q) s.heap H locs → lv_has ls 22 [(14, .ref za), (13, .int (cFronts T2 n)), (12, .int (nI (cnt (endB T2) n))), (11, .int (nI (cEnded T2 n))), (9, .ref wa), (8, .int (nI (tk + 1))), (7, .int (nI bk)), (6, .ref ea), (5, .ref pa), (4, .ref fa), (3, .int (nI n)), (2, .ref sm), (1, .ref r), (0, .ref b)] → W p l e room_1 s m args below meth c H locs  c0 s0 Q (F0 m 795 ls []) := by
  obtain ⟨hx, hb, hml, hown, hts, hX, hXS, hXZ, hl9⟩ := id C
  obtain ⟨⟨hn1, hn4⟩, hTk, hK4, hlen, ⟨qs, g9, hSM⟩, ⟨qt, hTT⟩⟩ := id Y
  have hA : ∀ q : Nat, s.heap.size ≤ q → (fun q : Nat => s.heap.size ≤ q) q := fun _ h => h
  have hiX3 : ∀ w ∈ u_ws RX3 TX3 5, w ∈ wsL_law := inlX3
  have hiX4 : ∀ w ∈ u_ws RX4 TX4 17, w ∈ wsL_law := inlX4
  intro H locs ls hP hD hS hl
  have after834 : ∀ (ls : Array Slot), lv_has ls 22 [(14, .ref za), (13, .int (cFronts T2 n)), (12, .int (nI (cnt (endB T2) n))), (11, .int (nI (cEnded T2 n))), (9, .ref wa), (8, .int (nI (tk + 1))), (7, .int (nI bk)), (6, .ref ea), (5, .ref pa), (4, .ref fa), (3, .int (nI n)), (2, .ref sm), (1, .ref r), (0, .ref b)] → W p l e room_1 s m args below meth c H locs  c0 s0 Q (F0 m 834 ls []) := by
    intro ls hl
    refine lv_iload hx hb dL_law_834 (lv_at hl 2 rfl) ?_
    refine lv_iload hx hb dL_law_836 (lv_at hl 3 rfl) ?_
    refine lv_icmp_ne (tgt := 865) hx hb dL_law_838 (by decide) (fun c => absurd (congrArg nI (ended_n hAT2.1 (by omega)).symm) c) (fun _ => ?_)
    refine lv_aload_n hx hb dL_law_841 rfl (lv_at hl 12 rfl) ?_
    refine lv_iconst (v := 5) hx hb dL_law_842 (by decide) ?_
    refine pl_sO (W0 := ([(za, aI cZ n Z), (wa, aI cI n WY), (ea, aI cI n EN), (pa, aI cI n RP), (fa, aI cI n FR)] ++ LW)) (w' := wRace cI cT r tr k1 k2 k3 ts ad n (nI (tk + 1)) KF S U V T2) (rest := []) (As := [.int 5]) ⟨hx, hb, hml, hown, hts⟩ (mX2_count l D cI cT hl9 H.size r tr k1 k2 k3 ts ad n (by omega) (nI (tk + 1)) KF S U V T2 5) (cwV 1 hts gL_law_X2_count rfl rfl rfl (by decide +kernel) ⟨Nat.le_of_ble_eq_true rfl, Nat.le_of_ble_eq_true rfl⟩) (ct_5) hX.1 hXZ hXS hP hD hS hA (xb_fst rfl cI ad _ _ _) (ci := 2) rfl rfl rfl rfl hl.1 rfl (Nat.le_of_ble_eq_true rfl) dL_law_843 ⟨by decide, by decide⟩ ⟨show c0 + 2 ≤ 600086 by omega, show s0 + 12 ≤ 7301442 by omega⟩ (fun H locs hP hD hS => ?_)
    refine sp_top (show cBroke T2 n = nI Q9 from hQ9) ?_
    refine lv_iload hx hb dL_law_846 (lv_at hl 6 rfl) ?_
    refine lv_icmp_lt (tgt := 865) hx hb dL_law_848 (by decide) (fun c => absurd c (nI_nlt hbk (by omega))) (fun _ => ?_)
    exact kk _ _ H locs ls (by omega) (by omega) hP hD hS (lv_sub hl [1, 4, 5, 6, 7, 8, 9, 10, 11, 12, 13] rfl)
  have loop807 : ∀ (fu k : Nat), n - k < fu → k ≤ n → ∀ (ls : Array Slot), lv_has ls 22 [(17, .int (nI k)), (16, .int (nI n)), (15, .ref za), (14, .ref za), (13, .int (cFronts T2 n)), (12, .int (nI (cnt (endB T2) n))), (11, .int (nI (cEnded T2 n))), (9, .ref wa), (8, .int (nI (tk + 1))), (7, .int (nI bk)), (6, .ref ea), (5, .ref pa), (4, .ref fa), (3, .int (nI n)), (2, .ref sm), (1, .ref r), (0, .ref b)] → W p l e room_1 s m args below meth c H locs  c0 s0 Q (F0 m 807 ls []) := by
    intro fu
    induction fu with
    | zero => intro k hfu; exact absurd hfu (Nat.not_lt_zero _)
    | succ fu ih =>
      intro k hfu hk ls hl
      refine lv_iload hx hb dL_law_807 (lv_at hl 0 rfl) ?_
      refine lv_iload hx hb dL_law_809 (lv_at hl 1 rfl) ?_
      refine sp_ge (by omega) (by omega) (tgt := 834) hx hb dL_law_811 (by decide) (fun hc9 => ?_) (fun hc9 => ?_)
      · skip
        exact after834 ls (lv_sub hl [3, 4, 5, 6, 7, 8, 9, 10, 11, 12, 13, 14, 15, 16] rfl)
      · skip
        refine lv_aload hx hb dL_law_814 (lv_at hl 2 rfl) ?_
        refine lv_iload hx hb dL_law_816 (lv_at hl 0 rfl) ?_
        refine va_zald hx hb hX.2.1 hP 0 3 rfl rfl (vp_in_nI hc9 (by omega)) dL_law_818 ?_
        refine sp_top (show Z (nI k).toNatClampNeg = 1 from by rw [nI_clamp (by omega)]; exact hZ k hc9) ?_
        refine lv_istore (lv' := [(18, .int 1), (17, .int (nI k)), (16, .int (nI n)), (15, .ref za), (14, .ref za), (13, .int (cFronts T2 n)), (12, .int (nI (cnt (endB T2) n))), (11, .int (nI (cEnded T2 n))), (9, .ref wa), (8, .int (nI (tk + 1))), (7, .int (nI bk)), (6, .ref ea), (5, .ref pa), (4, .ref fa), (3, .int (nI n)), (2, .ref sm), (1, .ref r), (0, .ref b)]) hx hb dL_law_819 hl (by decide) rfl (fun ls hl => ?_)
        refine lv_iload hx hb dL_law_821 (lv_at hl 0 rfl) ?_
        refine lv_if_ne (tgt := 828) hx hb dL_law_823 (by decide) (fun _ => ?_) (fun c => absurd c (by decide))
        refine lv_iinc (v := nI (k + 1)) (lv' := [(17, .int (nI (k + 1))), (18, .int 1), (16, .int (nI n)), (15, .ref za), (14, .ref za), (13, .int (cFronts T2 n)), (12, .int (nI (cnt (endB T2) n))), (11, .int (nI (cEnded T2 n))), (9, .ref wa), (8, .int (nI (tk + 1))), (7, .int (nI bk)), (6, .ref ea), (5, .ref pa), (4, .ref fa), (3, .int (nI n)), (2, .ref sm), (1, .ref r), (0, .ref b)]) hx hb dL_law_828 hl (k := 1) rfl ((nI_1 k)) (by decide) rfl (fun ls hl => ?_)
        refine lv_goto (tgt := 807) hx hb dL_law_831 (by decide) ?_
        exact ih (k + 1) (by omega) (by omega) ls (lv_sub hl [0, 2, 3, 4, 5, 6, 7, 8, 9, 10, 11, 12, 13, 14, 15, 16, 17] rfl)
  refine lv_aload hx hb dL_law_795 (lv_at hl 0 rfl) ?_
  refine lv_astore (lv' := [(15, .ref za), (14, .ref za), (13, .int (cFronts T2 n)), (12, .int (nI (cnt (endB T2) n))), (11, .int (nI (cEnded T2 n))), (9, .ref wa), (8, .int (nI (tk + 1))), (7, .int (nI bk)), (6, .ref ea), (5, .ref pa), (4, .ref fa), (3, .int (nI n)), (2, .ref sm), (1, .ref r), (0, .ref b)]) hx hb dL_law_797 hl (by decide) rfl (fun ls hl => ?_)
  refine lv_aload hx hb dL_law_799 (lv_at hl 0 rfl) ?_
  refine va_alen hx hb hX.2.1 hP 0 3 rfl rfl (v := nI n) rfl dL_law_801 ?_
  refine lv_istore (lv' := [(16, .int (nI n)), (15, .ref za), (14, .ref za), (13, .int (cFronts T2 n)), (12, .int (nI (cnt (endB T2) n))), (11, .int (nI (cEnded T2 n))), (9, .ref wa), (8, .int (nI (tk + 1))), (7, .int (nI bk)), (6, .ref ea), (5, .ref pa), (4, .ref fa), (3, .int (nI n)), (2, .ref sm), (1, .ref r), (0, .ref b)]) hx hb dL_law_802 hl (by decide) rfl (fun ls hl => ?_)
  refine lv_iconst (v := nI 0) hx hb dL_law_804 (by decide) ?_
  refine lv_istore (lv' := [(17, .int (nI 0)), (16, .int (nI n)), (15, .ref za), (14, .ref za), (13, .int (cFronts T2 n)), (12, .int (nI (cnt (endB T2) n))), (11, .int (nI (cEnded T2 n))), (9, .ref wa), (8, .int (nI (tk + 1))), (7, .int (nI bk)), (6, .ref ea), (5, .ref pa), (4, .ref fa), (3, .int (nI n)), (2, .ref sm), (1, .ref r), (0, .ref b)]) hx hb dL_law_805 hl (by decide) rfl (fun ls hl => ?_)
  exact loop807 _ 0 (Nat.lt_succ_self _) (Nat.zero_le _) ls (lv_sub hl [0, 1, 2, 3, 4, 5, 6, 7, 8, 9, 10, 11, 12, 13, 14, 15, 16] rfl)
set_option maxHeartbeats 8000000 in
set_option maxRecDepth 100000 in
theorem law_7 {p : Program} {l : Launch} {e : Env} {s : State} {m : MethodId} {args : Array Value} {below : List Frame} {meth : Method} {c : Code} {D : va_G} {cI cT cL cG cZ : ClassId} {Q : State → Prop} {r tr k1 k2 k3 ts b sm tt fa pa ea n ns len : Nat} {ad : Nat → Nat → Nat} {KF S U V : Nat → Int32} {f : Nat → Option Nat} {LW : va_W} (C : LX p l s m args c D cI cT cL cG cZ) (Y : LYx cL LW sm tt f n ns KF U V len) {tk bk wa za c0 s0 : Nat} {T2 : Nat → TV} {FR RP EN WY Z : Nat → Int32} (hc0 : c0 ≤ 200000) (hs0 : s0 ≤ 2000000) (htk : tk < 120) (hAT2 : ATx cI f LW T2 n (tk + 1) (nI len)) (kk : ∀ (d1 : Drawn), s.drawn.sameBut d1 lw_cs → ∀ (H : Heap) (locs : List Loc) (ls : Array Slot), va_P D vwCl (([(za, aI cZ n Z), (wa, aI cI n WY), (ea, aI cI n EN), (pa, aI cI n RP), (fa, aI cI n FR)] ++ LW) ++ wRace cI cT r tr k1 k2 k3 ts ad n (nI (tk + 1)) KF S U V T2) H → va_D (fun q : Nat => s.heap.size ≤ q) (([(za, aI cZ n Z), (wa, aI cI n WY), (ea, aI cI n EN), (pa, aI cI n RP), (fa, aI cI n FR)] ++ LW) ++ wRace cI cT r tr k1 k2 k3 ts ad n (nI (tk + 1)) KF S U V T2) → va_S (fun q : Nat => s.heap.size ≤ q) s.heap H locs → lv_has ls 22 [(13, .int (cFronts T2 n)), (9, .ref wa), (8, .int (nI (tk + 1))), (7, .int (nI bk)), (6, .ref ea), (5, .ref pa), (4, .ref fa), (3, .int (nI n)), (2, .ref sm), (1, .ref r), (0, .ref b)] → W p l e room_1 (s.setDrawn d1) m args below meth c H locs  c0 s0 Q (F0 m 867 ls [])) : ∀ (d0 : Drawn), s.drawn.sameBut d0 lw_cs → ∀ (H : Heap) (locs : List Loc) (ls : Array Slot), va_P D vwCl (([(za, aI cZ n Z), (wa, aI cI n WY), (ea, aI cI n EN), (pa, aI cI n RP), (fa, aI cI n FR)] ++ LW) ++ wRace cI cT r tr k1 k2 k3 ts ad n (nI (tk + 1)) KF S U V T2) H → va_D (fun q : Nat => s.heap.size ≤ q) (([(za, aI cZ n Z), (wa, aI cI n WY), (ea, aI cI n EN), (pa, aI cI n RP), (fa, aI cI n FR)] ++ LW) ++ wRace cI cT r tr k1 k2 k3 ts ad n (nI (tk + 1)) KF S U V T2) → va_S (fun q : Nat => s.heap.size ≤ q) s.heap H locs → lv_has ls 22 [(13, .int (cFronts T2 n)), (9, .ref wa), (8, .int (nI (tk + 1))), (7, .int (nI bk)), (6, .ref ea), (5, .ref pa), (4, .ref fa), (3, .int (nI n)), (2, .ref sm), (1, .ref r), (0, .ref b)] → W p l e room_1 (s.setDrawn d0) m args below meth c H locs  c0 s0 Q (F0 m 851 ls []) := by
  obtain ⟨hx, hb, hml, hown, hts, hX, hXS, hXZ, hl9⟩ := id C
  obtain ⟨⟨hn1, hn4⟩, hTk, hK4, hlen, ⟨qs, g9, hSM⟩, ⟨qt, hTT⟩⟩ := id Y
  have hA : ∀ q : Nat, s.heap.size ≤ q → (fun q : Nat => s.heap.size ≤ q) q := fun _ h => h
  have hiX3 : ∀ w ∈ u_ws RX3 TX3 5, w ∈ wsL_law := inlX3
  have hiX4 : ∀ w ∈ u_ws RX4 TX4 17, w ∈ wsL_law := inlX4
  intro d0 hd0 H locs ls hP hD hS hl
  obtain ⟨s9, hs9, hs9b⟩ := fronts_n hAT2.1 (by omega) n (Nat.le_refl n)
  refine lv_aload_n hx hb dL_law_851 rfl (lv_at hl 9 rfl) ?_
  refine pl_sD (W0 := ([(za, aI cZ n Z), (wa, aI cI n WY), (ea, aI cI n EN), (pa, aI cI n RP), (fa, aI cI n FR)] ++ LW)) (w := wRace cI cT r tr k1 k2 k3 ts ad n (nI (tk + 1)) KF S U V T2) (w' := wRace cI cT r tr k1 k2 k3 ts ad n (nI (tk + 1)) KF S U V T2) (rest := []) (As := []) hd0 ⟨hx, hb, hml, hown, dr_words hts _⟩ (mX2_mean l D cI cT r tr k1 k2 k3 ts ad n (by omega) (nI (tk + 1)) KF S U V T2) (cwV 0 (dr_words hts _) gL_law_X2_mean rfl rfl rfl (by decide +kernel) ⟨Nat.le_of_ble_eq_true rfl, Nat.le_of_ble_eq_true rfl⟩) hX.1 hP hD hS rfl (ci := 2) rfl rfl rfl rfl hl.1 rfl (Nat.le_of_ble_eq_true rfl) dL_law_852 ⟨show c0 ≤ 600086 by omega, show s0 ≤ 7301442 by omega⟩ (fun r1 H locs d1 hd1 hm1 hP hD hS => ?_)
  refine lv_iload hx hb dL_law_855 (lv_at hl 0 rfl) ?_
  refine lv_i2d hx hb dL_law_857 ?_
  refine lv_iload_n hx hb dL_law_858 rfl (lv_at hl 7 rfl) ?_
  refine lv_i2d hx hb dL_law_859 ?_
  refine lv_ddiv_any hd1 lw_bits hx hb dL_law_860 (fun rd dd hal hd2 => ?_)
  refine lv_dcmp hx hb dL_law_861 ?_
  rw [hs9] at hm1 hal
  refine lv_if_eq (tgt := 867) hx hb dL_law_862 (by decide) (fun _ => ?_) (fun c => absurd (mean_eq hn1 hn4 hs9b hm1 hal) c)
  exact kk dd hd2 H locs ls hP hD hS hl
set_option maxHeartbeats 8000000 in
set_option maxRecDepth 100000 in
theorem law_8 {p : Program} {l : Launch} {e : Env} {s : State} {m : MethodId} {args : Array Value} {below : List Frame} {meth : Method} {c : Code} {D : va_G} {cI cT cL cG cZ : ClassId} {Q : State → Prop} {r tr k1 k2 k3 ts b sm tt fa pa ea n ns len : Nat} {ad : Nat → Nat → Nat} {KF S U V : Nat → Int32} {f : Nat → Option Nat} {LW : va_W} (C : LX p l s m args c D cI cT cL cG cZ) (Y : LYx cL LW sm tt f n ns KF U V len) (hend : ∀ (d0 : Drawn), s.drawn.sameBut d0 lw_cs → ∀ (tk c1 s1 : Nat) (T : Nat → TV) (FR RP EN : Nat → Int32) (H : Heap) (locs : List Loc) (ls : Array Slot), ATx cI f LW T n tk (nI len) → c1 ≤ 60000 → s1 ≤ 400000 → va_P D vwCl (([(ea, aI cI n EN), (pa, aI cI n RP), (fa, aI cI n FR)] ++ LW) ++ wRace cI cT r tr k1 k2 k3 ts ad n (nI tk) KF S U V T) H → va_D (fun q : Nat => s.heap.size ≤ q) (([(ea, aI cI n EN), (pa, aI cI n RP), (fa, aI cI n FR)] ++ LW) ++ wRace cI cT r tr k1 k2 k3 ts ad n (nI tk) KF S U V T) → va_S (fun q : Nat => s.heap.size ≤ q) s.heap H locs → lv_has ls 22 [(6, .ref ea), (5, .ref pa), (4, .ref fa), (3, .int (nI n)), (2, .ref sm), (1, .ref r), (0, .ref b)] → W p l e room_1 (s.setDrawn d0) m args below meth c H locs  c1 s1 Q (F0 m 873 ls [])) : ∀ (fu tk : Nat), 120 - tk < fu → tk ≤ 120 → ∀ (d0 : Drawn), s.drawn.sameBut d0 lw_cs → ∀ (bk P0 c1 s1 : Nat) (T : Nat → TV) (FR RP EN : Nat → Int32) (H : Heap) (locs : List Loc) (ls : Array Slot), ATx cI f LW T n tk (nI len) → (∀ j, j < n → FR j = (T (j + 2)).1 10) → (∀ j, j < n → RP j = (T (j + 2)).1 12) → (∀ j, j < n → EN j = (T (j + 2)).1 16) → cBroke T n = nI P0 → bk ≤ P0 → P0 ≤ 500 → c1 ≤ 3000 + 400 * tk → s1 ≤ 30000 + 2500 * tk → va_P D vwCl (([(ea, aI cI n EN), (pa, aI cI n RP), (fa, aI cI n FR)] ++ LW) ++ wRace cI cT r tr k1 k2 k3 ts ad n (nI tk) KF S U V T) H → va_D (fun q : Nat => s.heap.size ≤ q) (([(ea, aI cI n EN), (pa, aI cI n RP), (fa, aI cI n FR)] ++ LW) ++ wRace cI cT r tr k1 k2 k3 ts ad n (nI tk) KF S U V T) → va_S (fun q : Nat => s.heap.size ≤ q) s.heap H locs → lv_has ls 22 [(8, .int (nI (tk + 1))), (7, .int (nI bk)), (6, .ref ea), (5, .ref pa), (4, .ref fa), (3, .int (nI n)), (2, .ref sm), (1, .ref r), (0, .ref b)] → W p l e room_1 (s.setDrawn d0) m args below meth c H locs  c1 s1 Q (F0 m 80 ls []) := by
  obtain ⟨hx, hb, hml, hown, hts, hX, hXS, hXZ, hl9⟩ := id C
  obtain ⟨⟨hn1, hn4⟩, hTk, hK4, hlen, ⟨qs, g9, hSM⟩, ⟨qt, hTT⟩⟩ := id Y
  have hA : ∀ q : Nat, s.heap.size ≤ q → (fun q : Nat => s.heap.size ≤ q) q := fun _ h => h
  have hiX3 : ∀ w ∈ u_ws RX3 TX3 5, w ∈ wsL_law := inlX3
  have hiX4 : ∀ w ∈ u_ws RX4 TX4 17, w ∈ wsL_law := inlX4
  intro fu
  induction fu with
  | zero => intro tk hfu; exact absurd hfu (Nat.not_lt_zero _)
  | succ fu ih =>
    intro tk hfu htk120 d0 hd0 bk P0 c1 s1 T FR RP EN H locs ls hAT hFR hRP hEN hP0 hbk hP0b hc1 hs1 hP hD hS hl
    have hts2 := dr_words hts d0
    refine lv_iload hx hb dL_law_80 (lv_at hl 0 rfl) ?_
    refine lv_bipush (v := nI 120) hx hb dL_law_82 (by decide) ?_
    refine sp_gt (by omega) (by omega) (tgt := 873) hx hb dL_law_84 (by decide) (fun hc9 => ?_) (fun hc9 => ?_)
    · skip
      exact hend d0 hd0 tk c1 s1 T FR RP EN H locs ls hAT (by omega) (by omega) hP hD hS (lv_sub hl [2, 3, 4, 5, 6, 7, 8] rfl)
    · skip
      have htk : tk < 120 := by omega
      have hC2 := C.draw d0
      refine lv_iload_n hx hb dL_law_87 rfl (lv_at hl 5 rfl) ?_
      refine pl_newi hx hb (hts2 (.arrayClass .int) (by decide +kernel)) (hX.1.draw d0) hP hD hS hA n rfl (by omega) (show c1 + 1 ≤ 600086 by omega) (show s1 + n ≤ 7301442 by omega) dL_law_88 (fun wa H hP hD hS => ?_)
      refine lv_astore (lv' := [(9, .ref wa), (8, .int (nI (tk + 1))), (7, .int (nI bk)), (6, .ref ea), (5, .ref pa), (4, .ref fa), (3, .int (nI n)), (2, .ref sm), (1, .ref r), (0, .ref b)]) hx hb dL_law_90 hl (by decide) rfl (fun ls hl => ?_)
      refine lv_iconst (v := nI 0) hx hb dL_law_92 (by decide) ?_
      refine lv_istore (lv' := [(10, .int (nI 0)), (9, .ref wa), (8, .int (nI (tk + 1))), (7, .int (nI bk)), (6, .ref ea), (5, .ref pa), (4, .ref fa), (3, .int (nI n)), (2, .ref sm), (1, .ref r), (0, .ref b)]) hx hb dL_law_93 hl (by decide) rfl (fun ls hl => ?_)
      refine law_2 (s := s.setDrawn d0) hC2 Y (tk := tk) (c0 := c1 + 1) (s0 := s1 + n) (by omega) (by omega) hAT (fun WY c2 s2 H locs ls hWY hc2 hs2 hP hD hS hl => ?_) _ 0 (Nat.lt_succ_self _) (Nat.zero_le _) (fun _ => 0) _ _ H locs ls (fun j hj => absurd hj (Nat.not_lt_zero j)) (by omega) (by omega) hP hD hS (lv_sub hl [0, 1, 2, 3, 4, 5, 6, 7, 8, 9, 10] rfl)
      refine law_3 (s := s.setDrawn d0) hC2 Y (tk := tk) (c0 := c2) (s0 := s2) (by omega) (by omega) htk hAT (fun T2 za c3 s3 H locs ls hT2 hc3 hs3 hP hD hS hl => ?_) H locs ls hP hD hS (lv_sub hl [1, 2, 3, 4, 5, 6, 7, 8, 9, 10] rfl)
      have hst := hAT.tick htk hT2
      obtain ⟨P2, Q2, hP2, hQ2, hPQ, hQ2b⟩ := broke_n (fun t ht => (hst.2 t ht).2.2.2.1) n (Nat.le_refl n)
      have hQ2c : (tk + 1) * n ≤ 120 * 4 := Nat.mul_le_mul (by omega) hn4
      have eP : P2 = P0 := nI_inj' (by omega) (by omega) (hP2.symm.trans hP0)
      subst eP
      refine law_4 (s := s.setDrawn d0) hC2 Y (tk := tk) (bk0 := bk) (c0 := c3) (s0 := s3) (by omega) (by omega) htk (by omega) hst.1 hst.2 hWY (fun FR2 RP2 EN2 Z c4 s4 H locs ls hFR2 hRP2 hEN2 hZ hc4 hs4 hP hD hS hl => ?_) _ 0 (Nat.lt_succ_self _) (Nat.zero_le _) FR RP EN (fun _ => 0) _ _ H locs ls (fun j hj => by rw [if_neg (Nat.not_lt_zero j)]; exact hFR j hj) (fun j hj => by rw [if_neg (Nat.not_lt_zero j)]; exact hRP j hj) (fun j hj => by rw [if_neg (Nat.not_lt_zero j)]; exact hEN j hj) (fun k hk => absurd hk (Nat.not_lt_zero k)) (by omega) (by omega) hP hD hS (lv_sub hl [0, 1, 2, 3, 4, 5, 6, 7, 8, 9, 10, 11, 12, 13, 14] rfl)
      refine law_6 (s := s.setDrawn d0) hC2 Y (tk := tk) (bk := bk + cnt (dqB T T2) n) (c0 := c4) (s0 := s4) (by omega) (by omega) htk hst.1 hZ hQ2 (by omega) (by omega) (fun c5 s5 H locs ls hc5 hs5 hP hD hS hl => ?_) H locs ls hP hD hS hl
      refine law_7 C Y (tk := tk) (bk := bk + cnt (dqB T T2) n) (c0 := c5) (s0 := s5) (by omega) (by omega) htk hst.1 (fun d1 hd1 H locs ls hP hD hS hl => ?_) d0 hd0 H locs ls hP hD hS hl
      refine lv_iinc (v := nI (tk + 1 + 1)) (lv' := [(8, .int (nI (tk + 1 + 1))), (13, .int (cFronts T2 n)), (9, .ref wa), (7, .int (nI (bk + cnt (dqB T T2) n))), (6, .ref ea), (5, .ref pa), (4, .ref fa), (3, .int (nI n)), (2, .ref sm), (1, .ref r), (0, .ref b)]) hx hb dL_law_867 hl (k := 2) rfl ((nI_1 (tk + 1))) (by decide) rfl (fun ls hl => ?_)
      refine lv_goto (tgt := 80) hx hb dL_law_870 (by decide) ?_
      have hP := pl_tl (pl_tl hP)
      have hD := pl_tlD (pl_tlD hD)
      exact ih (tk + 1) (by omega) (by omega) d1 hd1 _ Q2 _ _ T2 _ _ _ H locs ls hst.1 hFR2 hRP2 hEN2 hQ2 (by omega) (by omega) (by omega) (by omega) hP hD hS (lv_sub hl [0, 3, 4, 5, 6, 7, 8, 9, 10] rfl)
set_option maxHeartbeats 8000000 in
set_option maxRecDepth 100000 in
theorem law_9 {p : Program} {l : Launch} {e : Env} {s : State} {m : MethodId} {args : Array Value} {below : List Frame} {meth : Method} {c : Code} {D : va_G} {cI cT cL cG cZ : ClassId} {Q : State → Prop} {r tr k1 k2 k3 ts b sm tt fa pa ea n ns len : Nat} {ad : Nat → Nat → Nat} {KF S U V : Nat → Int32} {f : Nat → Option Nat} {LW : va_W} (C : LX p l s m args c D cI cT cL cG cZ) (Y : LYx cL LW sm tt f n ns KF U V len) {tk c0 s0 : Nat} {T : Nat → TV} {FR RP EN : Nat → Int32} (hc0 : c0 ≤ 200000) (hs0 : s0 ≤ 2000000) (hAT : ATx cI f LW T n tk (nI len)) (kk : ∀ (T3 : Nat → TV) (c1 s1 : Nat) (H : Heap) (locs : List Loc) (ls : Array Slot), cFronts T3 n = 0 → c1 ≤ c0 + 4 → s1 ≤ s0 + 24 → va_P D vwCl (([(ea, aI cI n EN), (pa, aI cI n RP), (fa, aI cI n FR)] ++ LW) ++ wRace cI cT r tr k1 k2 k3 ts ad n (0) KF S U V T3) H → va_D (fun q : Nat => s.heap.size ≤ q) (([(ea, aI cI n EN), (pa, aI cI n RP), (fa, aI cI n FR)] ++ LW) ++ wRace cI cT r tr k1 k2 k3 ts ad n (0) KF S U V T3) → va_S (fun q : Nat => s.heap.size ≤ q) s.heap H locs → lv_has ls 22 [(6, .ref ea), (5, .ref pa), (4, .ref fa), (3, .int (nI n)), (2, .ref sm), (1, .ref r), (0, .ref b)] → W p l e room_1 s m args below meth c H locs  c1 s1 Q (F0 m 889 ls [])) : ∀ (H : Heap) (locs : List Loc) (ls : Array Slot), va_P D vwCl (([(ea, aI cI n EN), (pa, aI cI n RP), (fa, aI cI n FR)] ++ LW) ++ wRace cI cT r tr k1 k2 k3 ts ad n (nI tk) KF S U V T) H → va_D (fun q : Nat => s.heap.size ≤ q) (([(ea, aI cI n EN), (pa, aI cI n RP), (fa, aI cI n FR)] ++ LW) ++ wRace cI cT r tr k1 k2 k3 ts ad n (nI tk) KF S U V T) → va_S (fun q : Nat => s.heap.size ≤ q) s.heap H locs → lv_has ls 22 [(6, .ref ea), (5, .ref pa), (4, .ref fa), (3, .int (nI n)), (2, .ref sm), (1, .ref r), (0, .ref b)] → W p l e room_1 s m args below meth c H locs  c0 s0 Q (F0 m 873 ls []) := by
  obtain ⟨hx, hb, hml, hown, hts, hX, hXS, hXZ, hl9⟩ := id C
  obtain ⟨⟨hn1, hn4⟩, hTk, hK4, hlen, ⟨qs, g9, hSM⟩, ⟨qt, hTT⟩⟩ := id Y
  have hA : ∀ q : Nat, s.heap.size ≤ q → (fun q : Nat => s.heap.size ≤ q) q := fun _ h => h
  have hiX3 : ∀ w ∈ u_ws RX3 TX3 5, w ∈ wsL_law := inlX3
  have hiX4 : ∀ w ∈ u_ws RX4 TX4 17, w ∈ wsL_law := inlX4
  intro H locs ls hP hD hS hl
  refine lv_aload_n hx hb dL_law_873 rfl (lv_at hl 5 rfl) ?_
  refine pl_sI (W0 := ([(ea, aI cI n EN), (pa, aI cI n RP), (fa, aI cI n FR)] ++ LW)) (w := wRace cI cT r tr k1 k2 k3 ts ad n (nI tk) KF S U V T) (w' := wRace cI cT r tr k1 k2 k3 ts ad n (0) KF S U V (eachT cStartN T n)) (rest := []) (As := []) ⟨hx, hb, hml, hown, hts⟩ (mX2_restart l D cI cT r tr k1 k2 k3 ts ad n (by omega) (nI tk) KF S U V T hAT.tm) (cwV 0 hts gL_law_X2_restart rfl rfl rfl (by decide +kernel) ⟨Nat.le_of_ble_eq_true rfl, Nat.le_of_ble_eq_true rfl⟩) hX.1 hP hD hS (xb_fst rfl cI ad _ _ _) (ci := 2) rfl rfl rfl rfl hl.1 rfl (Nat.le_of_ble_eq_true rfl) dL_law_874 ⟨show c0 ≤ 600086 by omega, show s0 ≤ 7301442 by omega⟩ (fun H locs hP hD hS => ?_)
  obtain ⟨T3, hT3⟩ : ∃ z, z = eachT cStartN T n := ⟨_, rfl⟩
  rw [← hT3] at hP hD
  have hz := start_0 (T := T) (T3 := T3) (n := n) (fun t ht => by rw [hT3, eachT_t _ _ ht])
  have hP : va_P D vwCl (([(ea, aI cI n EN), (pa, aI cI n RP), (fa, aI cI n FR)] ++ LW) ++ wRace cI cT r tr k1 k2 k3 ts ad n (0) KF S U V T3) H := hP
  have hD : va_D (fun q : Nat => s.heap.size ≤ q) (([(ea, aI cI n EN), (pa, aI cI n RP), (fa, aI cI n FR)] ++ LW) ++ wRace cI cT r tr k1 k2 k3 ts ad n (0) KF S U V T3) := hD
  refine lv_iload_n hx hb dL_law_877 rfl (lv_at hl 3 rfl) ?_
  refine lv_icmp_ne (tgt := 902) hx hb dL_law_878 (by decide) (fun c => absurd rfl c) (fun _ => ?_)
  refine lv_aload_n hx hb dL_law_881 rfl (lv_at hl 5 rfl) ?_
  refine lv_iconst (v := 4) hx hb dL_law_882 (by decide) ?_
  refine pl_sO (W0 := ([(ea, aI cI n EN), (pa, aI cI n RP), (fa, aI cI n FR)] ++ LW)) (w' := wRace cI cT r tr k1 k2 k3 ts ad n (0) KF S U V T3) (rest := []) (As := [.int 4]) ⟨hx, hb, hml, hown, hts⟩ (mX2_count l D cI cT hl9 H.size r tr k1 k2 k3 ts ad n (by omega) (0) KF S U V T3 4) (cwV 1 hts gL_law_X2_count rfl rfl rfl (by decide +kernel) ⟨Nat.le_of_ble_eq_true rfl, Nat.le_of_ble_eq_true rfl⟩) (ct_4) hX.1 hXZ hXS hP hD hS hA (xb_fst rfl cI ad _ _ _) (ci := 2) rfl rfl rfl rfl hl.1 rfl (Nat.le_of_ble_eq_true rfl) dL_law_883 ⟨by decide, by decide⟩ ⟨show c0 + 2 ≤ 600086 by omega, show s0 + 12 ≤ 7301442 by omega⟩ (fun H locs hP hD hS => ?_)
  refine lv_if_ne (tgt := 902) hx hb dL_law_886 (by decide) (fun c => absurd (by rw [hz.1]; rfl) c) (fun _ => ?_)
  exact kk T3 _ _ H locs ls (hz.2 n (Nat.le_refl n)) (by omega) (by omega) hP hD hS hl
set_option maxHeartbeats 8000000 in
set_option maxRecDepth 100000 in
theorem law_10 {p : Program} {l : Launch} {e : Env} {s : State} {m : MethodId} {args : Array Value} {below : List Frame} {meth : Method} {c : Code} {D : va_G} {cI cT cL cG cZ : ClassId} {Q : State → Prop} {r tr k1 k2 k3 ts b sm tt fa pa ea n ns len : Nat} {ad : Nat → Nat → Nat} {KF S U V : Nat → Int32} {f : Nat → Option Nat} {LW : va_W} (C : LX p l s m args c D cI cT cL cG cZ) (Y : LYx cL LW sm tt f n ns KF U V len) {c0 s0 : Nat} {T3 : Nat → TV} {FR RP EN : Nat → Int32} (hc0 : c0 ≤ 200000) (hs0 : s0 ≤ 2000000) (hz : cFronts T3 n = 0) (kk : ∀ (d1 : Drawn), s.drawn.sameBut d1 lw_cs → ∀ (H : Heap) (locs : List Loc) (ls : Array Slot), va_S (fun q : Nat => s.heap.size ≤ q) s.heap H locs → W p l e room_1 (s.setDrawn d1) m args below meth c H locs  c0 s0 Q (F0 m 903 ls [.int 1])) : ∀ (d0 : Drawn), s.drawn.sameBut d0 lw_cs → ∀ (H : Heap) (locs : List Loc) (ls : Array Slot), va_P D vwCl (([(ea, aI cI n EN), (pa, aI cI n RP), (fa, aI cI n FR)] ++ LW) ++ wRace cI cT r tr k1 k2 k3 ts ad n (0) KF S U V T3) H → va_D (fun q : Nat => s.heap.size ≤ q) (([(ea, aI cI n EN), (pa, aI cI n RP), (fa, aI cI n FR)] ++ LW) ++ wRace cI cT r tr k1 k2 k3 ts ad n (0) KF S U V T3) → va_S (fun q : Nat => s.heap.size ≤ q) s.heap H locs → lv_has ls 22 [(6, .ref ea), (5, .ref pa), (4, .ref fa), (3, .int (nI n)), (2, .ref sm), (1, .ref r), (0, .ref b)] → W p l e room_1 (s.setDrawn d0) m args below meth c H locs  c0 s0 Q (F0 m 889 ls []) := by
  obtain ⟨hx, hb, hml, hown, hts, hX, hXS, hXZ, hl9⟩ := id C
  obtain ⟨⟨hn1, hn4⟩, hTk, hK4, hlen, ⟨qs, g9, hSM⟩, ⟨qt, hTT⟩⟩ := id Y
  have hA : ∀ q : Nat, s.heap.size ≤ q → (fun q : Nat => s.heap.size ≤ q) q := fun _ h => h
  have hiX3 : ∀ w ∈ u_ws RX3 TX3 5, w ∈ wsL_law := inlX3
  have hiX4 : ∀ w ∈ u_ws RX4 TX4 17, w ∈ wsL_law := inlX4
  intro d0 hd0 H locs ls hP hD hS hl
  refine lv_aload_n hx hb dL_law_889 rfl (lv_at hl 5 rfl) ?_
  refine pl_sD (W0 := ([(ea, aI cI n EN), (pa, aI cI n RP), (fa, aI cI n FR)] ++ LW)) (w := wRace cI cT r tr k1 k2 k3 ts ad n (0) KF S U V T3) (w' := wRace cI cT r tr k1 k2 k3 ts ad n (0) KF S U V T3) (rest := []) (As := []) hd0 ⟨hx, hb, hml, hown, dr_words hts _⟩ (mX2_mean l D cI cT r tr k1 k2 k3 ts ad n (by omega) (0) KF S U V T3) (cwV 0 (dr_words hts _) gL_law_X2_mean rfl rfl rfl (by decide +kernel) ⟨Nat.le_of_ble_eq_true rfl, Nat.le_of_ble_eq_true rfl⟩) hX.1 hP hD hS rfl (ci := 2) rfl rfl rfl rfl hl.1 rfl (Nat.le_of_ble_eq_true rfl) dL_law_890 ⟨show c0 ≤ 600086 by omega, show s0 ≤ 7301442 by omega⟩ (fun r1 H locs d1 hd1 hm1 hP hD hS => ?_)
  rw [hz] at hm1
  refine lv_dconst0 hx hb dL_law_893 ?_
  refine lv_dcmp hx hb dL_law_894 ?_
  refine lv_if_ne (tgt := 902) hx hb dL_law_895 (by decide) (fun c => absurd (mean_0 hn1 hn4 hm1) c) (fun _ => ?_)
  refine lv_iconst (v := 1) hx hb dL_law_898 (by decide) ?_
  refine lv_goto (tgt := 903) hx hb dL_law_899 (by decide) ?_
  exact kk d1 hd1 H locs ls hS
