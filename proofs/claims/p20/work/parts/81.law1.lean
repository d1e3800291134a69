/-! p20: the law's body, piece by piece -/
def LYx (cL : ClassId) (LW : va_W) (sm tt : Nat) (f : Nat → Option Nat) (n ns : Nat) (KF U V : Nat → Int32) (len : Nat) : Prop := (1 ≤ n ∧ n ≤ 4) ∧ TrkI KF U V ns ∧ KF 4 = nI len ∧ len ≤ 799 ∧ (∃ (qs : Nat) (g9 : Value), LW[qs]? = some (sm, oSv 0 (nI len) 0 g9 (.ref tt))) ∧ ∃ qt : Nat, LW[qt]? = some (tt, aQ cL n f)
def ATx (cI : ClassId) (f : Nat → Option Nat) (LW : va_W) (T : Nat → TV) (n tk : Nat) (tl : Int32) : Prop := AllJ T n tk tl ∧ (∀ t, t < n → LRf cI f LW (T (t + 2)) t) ∧ Num T n
theorem ATx.tm {cI : ClassId} {f : Nat → Option Nat} {LW : va_W} {T : Nat → TV} {n tk : Nat} {tl : Int32} (h : ATx cI f LW T n tk tl) : cTeams T n := fun t ht => (h.1 t ht).ok
theorem ATx.tick {cI : ClassId} {f : Nat → Option Nat} {LW : va_W} {T T2 : Nat → TV} {n tk ns : Nat} {S U V : Nat → Int32} {tl : Int32} (h : ATx cI f LW T n tk tl) (htk : tk < 120) (h2 : ∀ t, t < n → T2 (t + 2) = cTickN S U V ns tl (nI (tk + 1)) (T (t + 2))) : ATx cI f LW T2 n (tk + 1) tl ∧ ∀ t, t < n → TkF (T (t + 2)) (T2 (t + 2)) tk (wayT S U V ns (T (t + 2))) := by
  refine ⟨⟨fun t ht => ?_, fun t ht => ?_, fun t ht => ?_⟩, fun t ht => ?_⟩
  · rw [h2 t ht]; exact ((h.1 t ht).tick htk).1
  · rw [h2 t ht]; exact (h.2.1 t ht).tick (fun j hj => cTick_of hj)
  · rw [h2 t ht, num_tick]; exact h.2.2 t ht
  · rw [h2 t ht]; exact ((h.1 t ht).tick htk).2
theorem ATx.same {cI : ClassId} {f : Nat → Option Nat} {LW : va_W} {T T2 : Nat → TV} {n tk : Nat} {tl : Int32} (h : ATx cI f LW T n tk tl) (h2 : ∀ t, T2 (t + 2) = T (t + 2)) : ATx cI f LW T2 n tk tl :=
  ⟨fun t ht => by rw [h2]; exact h.1 t ht, fun t ht => by rw [h2]; exact h.2.1 t ht, fun t ht => by rw [h2]; exact h.2.2 t ht⟩
section TMR
variable {x n ns : Nat} {T : Nat → TV} {S U V KF : Nat → Int32} {tick : Int32}
theorem tm_0 (hx : x < n) (hn : n ≤ 4) : rTeam (nI x) 0 n T = .inl ((T (x + 2)).1 10) := team_res (w := 0) hx (by omega) (by decide)
theorem tm_1 (hx : x < n) (hn : n ≤ 4) : rTeam (nI x) 1 n T = .inl ((T (x + 2)).1 11) := team_res (w := 1) hx (by omega) (by decide)
theorem tm_2 (hx : x < n) (hn : n ≤ 4) : rTeam (nI x) 2 n T = .inl ((T (x + 2)).1 12) := team_res (w := 2) hx (by omega) (by decide)
theorem tm_3 (hx : x < n) (hn : n ≤ 4) : rTeam (nI x) 3 n T = .inl ((T (x + 2)).1 13) := team_res (w := 3) hx (by omega) (by decide)
theorem tm_4 (hx : x < n) (hn : n ≤ 4) : rTeam (nI x) 4 n T = .inl (nI (cLie (T (x + 2)).1 (T (x + 2)).2.1 (cN (T (x + 2))) 0)) := team_res (w := 4) hx (by omega) (by decide)
theorem tm_5 (hx : x < n) (hn : n ≤ 4) : rTeam (nI x) 5 n T = .inl (nI (cLie (T (x + 2)).1 (T (x + 2)).2.1 (cN (T (x + 2))) 1)) := team_res (w := 5) hx (by omega) (by decide)
theorem tm_6 (hx : x < n) (hn : n ≤ 4) : rTeam (nI x) 6 n T = .inl (nI (cLie (T (x + 2)).1 (T (x + 2)).2.1 (cN (T (x + 2))) 2)) := team_res (w := 6) hx (by omega) (by decide)
theorem tm_7 (hx : x < n) (hn : n ≤ 4) : rTeam (nI x) 7 n T = .inl (nI (cLie (T (x + 2)).1 (T (x + 2)).2.1 (cN (T (x + 2))) 3)) := team_res (w := 7) hx (by omega) (by decide)
theorem tm_8 (hx : x < n) (hn : n ≤ 4) : rTeam (nI x) 8 n T = .inl ((T (x + 2)).1 16) := team_res (w := 8) hx (by omega) (by decide)
theorem nx_0 (hx : x < n) (hn : n ≤ 4) : rNext (nI x) 0 S U V ns n T = .inl (cPull (T (x + 2)).1) := by
  show rNext (nI x) (nI 0) S U V ns n T = _
  rw [next_res (w := 0) hx (by omega) (by decide), if_pos (by decide)]
theorem nx_1 (hx : x < n) (hn : n ≤ 4) : rNext (nI x) 1 S U V ns n T = .inl (cDragT S U V ns (T (x + 2))) := by
  show rNext (nI x) (nI 1) S U V ns n T = _
  rw [next_res (w := 1) hx (by omega) (by decide), if_neg (by decide), if_pos (by decide)]
theorem nx_2 (hx : x < n) (hn : n ≤ 4) : rNext (nI x) 2 S U V ns n T = .inl (cWay (T (x + 2)).1 (cPull (T (x + 2)).1) (cDragT S U V ns (T (x + 2)))) := by
  show rNext (nI x) (nI 2) S U V ns n T = _
  rw [next_res (w := 2) hx (by omega) (by decide), if_neg (by decide), if_neg (by decide)]
theorem ct_0 : rCount 0 KF T n tick = .inl (tick) := count_res (w := 0) (by decide)
theorem ct_4 : rCount 4 KF T n tick = .inl (nI (cEnded T n)) := count_res (w := 4) (by decide)
theorem ct_5 : rCount 5 KF T n tick = .inl (cBroke T n) := count_res (w := 5) (by decide)
end TMR
set_option maxHeartbeats 8000000 in
set_option maxRecDepth 100000 in
theorem law_1 {p : Program} {l : Launch} {e : Env} {s : State} {m : MethodId} {args : Array Value} {below : List Frame} {meth : Method} {c : Code} {D : va_G} {cI cT cL cG cZ : ClassId} {Q : State → Prop} {r tr k1 k2 k3 ts b sm tt fa pa ea n ns len : Nat} {ad : Nat → Nat → Nat} {KF S U V : Nat → Int32} {f : Nat → Option Nat} {LW : va_W} (C : LX p l s m args c D cI cT cL cG cZ) (Y : LYx cL LW sm tt f n ns KF U V len) {tk : Nat} {T : Nat → TV} {FR : Nat → Int32} (hAT : ATx cI f LW T n tk (nI len)) (kk : ∀ (RP EN : Nat → Int32) (c1 s1 : Nat) (H : Heap) (locs : List Loc) (ls : Array Slot), (∀ j, j < n → RP j = (T (j + 2)).1 12) → (∀ j, j < n → EN j = -1) → c1 ≤ 3000 → s1 ≤ 30000 → va_P D vwCl (([(ea, aI cI n EN), (pa, aI cI n RP), (fa, aI cI n FR)] ++ LW) ++ wRace cI cT r tr k1 k2 k3 ts ad n (nI tk) KF S U V T) H → va_D (fun q : Nat => s.heap.size ≤ q) (([(ea, aI cI n EN), (pa, aI cI n RP), (fa, aI cI n FR)] ++ LW) ++ wRace cI cT r tr k1 k2 k3 ts ad n (nI tk) KF S U V T) → va_S (fun q : Nat => s.heap.size ≤ q) s.heap H locs → lv_has ls 22 [(7, .int (nI n)), (6, .ref ea), (5, .ref pa), (4, .ref fa), (3, .int (nI n)), (2, .ref sm), (1, .ref r), (0, .ref b)] → W p l e room_1 s m args below meth c H locs  c1 s1 Q (F0 m 74 ls [])) : ∀ (fu k : Nat), n - k < fu → k ≤ n → ∀ (RP EN : Nat → Int32) (c1 s1 : Nat) (H : Heap) (locs : List Loc) (ls : Array Slot), (∀ j, j < k → RP j = (T (j + 2)).1 12) → (∀ j, j < k → EN j = -1) → c1 ≤ 2000 + 10 * k → s1 ≤ 20000 + 60 * k → va_P D vwCl (([(ea, aI cI n EN), (pa, aI cI n RP), (fa, aI cI n FR)] ++ LW) ++ wRace cI cT r tr k1 k2 k3 ts ad n (nI tk) KF S U V T) H → va_D (fun q : Nat => s.heap.size ≤ q) (([(ea, aI cI n EN), (pa, aI cI n RP), (fa, aI cI n FR)] ++ LW) ++ wRace cI cT r tr k1 k2 k3 ts ad n (nI tk) KF S U V T) → va_S (fun q : Nat => s.heap.size ≤ q) s.heap H locs → lv_has ls 22 [(7, .int (nI k)), (6, .ref ea), (5, .ref pa), (4, .ref fa), (3, .int (nI n)), (2, .ref sm), (1, .ref r), (0, .ref b)] → W p l e room_1 s m args below meth c H locs  c1 s1 Q (F0 m 44 ls []) := by
  obtain ⟨hx, hb, hml, hown, hts, hX, hXS, hXZ, hl9⟩ := id C
  obtain ⟨⟨hn1, hn4⟩, hTk, hK4, hlen, ⟨qs, g9, hSM⟩, ⟨qt, hTT⟩⟩ := id Y
  have hA : ∀ q : Nat, s.heap.size ≤ q → (fun q : Nat => s.heap.size ≤ q) q := fun _ h => h
  have hiX3 : ∀ w ∈ u_ws RX3 TX3 5, w ∈ wsL_law := inlX3
  have hiX4 : ∀ w ∈ u_ws RX4 TX4 17, w ∈ wsL_law := inlX4
  intro fu
  induction fu with
  | zero => intro k hfu; exact absurd hfu (Nat.not_lt_zero _)
  | succ fu ih =>
    intro k hfu hk RP EN c1 s1 H locs ls hRP hEN hc1 hs1 hP hD hS hl
    refine lv_iload hx hb dL_law_44 (lv_at hl 0 rfl) ?_
    refine lv_iload_n hx hb dL_law_46 rfl (lv_at hl 4 rfl) ?_
    refine sp_ge (by omega) (by omega) (tgt := 74) hx hb dL_law_47 (by decide) (fun hc9 => ?_) (fun hc9 => ?_)
    · skip
      have ek : k = n := by omega
      subst ek
      exact kk RP EN c1 s1 H locs ls hRP hEN (by omega) (by omega) hP hD hS (lv_sub hl [0, 1, 2, 3, 4, 5, 6, 7] rfl)
    · skip
      refine lv_aload hx hb dL_law_50 (lv_at hl 2 rfl) ?_
      refine lv_iload hx hb dL_law_52 (lv_at hl 0 rfl) ?_
      refine lv_aload_n hx hb dL_law_54 rfl (lv_at hl 6 rfl) ?_
      refine lv_iload hx hb dL_law_55 (lv_at hl 0 rfl) ?_
      refine lv_iconst (v := 2) hx hb dL_law_57 (by decide) ?_
      refine pl_sO (W0 := ([(ea, aI cI n EN), (pa, aI cI n RP), (fa, aI cI n FR)] ++ LW)) (w' := wRace cI cT r tr k1 k2 k3 ts ad n (nI tk) KF S U V T) (rest := [.int (nI k), .ref pa]) (As := [.int (nI k), .int 2]) ⟨hx, hb, hml, hown, hts⟩ (mX2_team l D cI cT hl9 H.size r tr k1 k2 k3 ts ad n (by omega) (nI tk) KF S U V T (hAT.tm) (nI k) 2) (cwV 2 hts gL_law_X2_team rfl rfl rfl (by decide +kernel) ⟨Nat.le_of_ble_eq_true rfl, Nat.le_of_ble_eq_true rfl⟩) (tm_2 hc9 hn4) hX.1 hXZ hXS hP hD hS hA (xb_fst rfl cI ad _ _ _) (ci := 2) rfl rfl rfl rfl hl.1 rfl (Nat.le_of_ble_eq_true rfl) dL_law_58 ⟨by decide, by decide⟩ ⟨show c1 + 2 ≤ 600086 by omega, show s1 + 12 ≤ 7301442 by omega⟩ (fun H locs hP hD hS => ?_)
      refine sp_iast hx hb hX.1.1 hP hD hS 1 0 rfl rfl (by omega) (by omega) dL_law_61 (fun H locs hP hD hS => ?_)
      have hP : va_P D vwCl (([(ea, aI cI n EN), (pa, aI cI n (upd RP k ((T (k + 2)).1 12))), (fa, aI cI n FR)] ++ LW) ++ wRace cI cT r tr k1 k2 k3 ts ad n (nI tk) KF S U V T) H := hP
      have hD : va_D (fun q : Nat => s.heap.size ≤ q) (([(ea, aI cI n EN), (pa, aI cI n (upd RP k ((T (k + 2)).1 12))), (fa, aI cI n FR)] ++ LW) ++ wRace cI cT r tr k1 k2 k3 ts ad n (nI tk) KF S U V T) := hD
      refine lv_aload hx hb dL_law_62 (lv_at hl 1 rfl) ?_
      refine lv_iload hx hb dL_law_64 (lv_at hl 0 rfl) ?_
      refine lv_iconst (v := (-1)) hx hb dL_law_66 (by decide) ?_
      refine sp_iast hx hb hX.1.1 hP hD hS 0 0 rfl rfl (by omega) (by omega) dL_law_67 (fun H locs hP hD hS => ?_)
      have hP : va_P D vwCl (([(ea, aI cI n (upd EN k (-1))), (pa, aI cI n (upd RP k ((T (k + 2)).1 12))), (fa, aI cI n FR)] ++ LW) ++ wRace cI cT r tr k1 k2 k3 ts ad n (nI tk) KF S U V T) H := hP
      have hD : va_D (fun q : Nat => s.heap.size ≤ q) (([(ea, aI cI n (upd EN k (-1))), (pa, aI cI n (upd RP k ((T (k + 2)).1 12))), (fa, aI cI n FR)] ++ LW) ++ wRace cI cT r tr k1 k2 k3 ts ad n (nI tk) KF S U V T) := hD
      refine lv_iinc (v := nI (k + 1)) (lv' := [(7, .int (nI (k + 1))), (6, .ref ea), (5, .ref pa), (4, .ref fa), (3, .int (nI n)), (2, .ref sm), (1, .ref r), (0, .ref b)]) hx hb dL_law_68 hl (k := 0) rfl ((nI_1 k)) (by decide) rfl (fun ls hl => ?_)
      refine lv_goto (tgt := 44) hx hb dL_law_71 (by decide) ?_
      refine ih (k + 1) (by omega) (by omega) _ _ _ _ H locs ls (fun j hj => ?_) (fun j hj => ?_) (by omega) (by omega) hP hD hS (lv_sub hl [0, 1, 2, 3, 4, 5, 6, 7] rfl)
      · by_cases ej : j = k
        · subst ej; exact pk_us
        · rw [pk_un ej]; exact hRP j (by omega)
      · by_cases ej : j = k
        · subst ej; exact pk_us
        · rw [pk_un ej]; exact hEN j (by omega)
set_option maxHeartbeats 8000000 in
set_option maxRecDepth 100000 in
theorem law_2 {p : Program} {l : Launch} {e : Env} {s : State} {m : MethodId} {args : Array Value} {below : List Frame} {meth : Method} {c : Code} {D : va_G} {cI cT cL cG cZ : ClassId} {Q : State → Prop} {r tr k1 k2 k3 ts b sm tt fa pa ea n ns len : Nat} {ad : Nat → Nat → Nat} {KF S U V : Nat → Int32} {f : Nat → Option Nat} {LW : va_W} (C : LX p l s m args c D cI cT cL cG cZ) (Y : LYx cL LW sm tt f n ns KF U V len) {tk bk wa c0 s0 : Nat} {T : Nat → TV} {FR RP EN : Nat → Int32} (hc0 : c0 ≤ 100000) (hs0 : s0 ≤ 1000000) (hAT : ATx cI f LW T n tk (nI len)) (kk : ∀ (WY : Nat → Int32) (c1 s1 : Nat) (H : Heap) (locs : List Loc) (ls : Array Slot), (∀ j, j < n → WY j = wayT S U V ns (T (j + 2))) → c1 ≤ c0 + 50 → s1 ≤ s0 + 300 → va_P D vwCl (([(wa, aI cI n WY), (ea, aI cI n EN), (pa, aI cI n RP), (fa, aI cI n FR)] ++ LW) ++ wRace cI cT r tr k1 k2 k3 ts ad n (nI tk) KF S U V T) H → va_D (fun q : Nat => s.heap.size ≤ q) (([(wa, aI cI n WY), (ea, aI cI n EN), (pa, aI cI n RP), (fa, aI cI n FR)] ++ LW) ++ wRace cI cT r tr k1 k2 k3 ts ad n (nI tk) KF S U V T) → va_S (fun q : Nat => s.heap.size ≤ q) s.heap H locs → lv_has ls 22 [(10, .int (nI n)), (9, .ref wa), (8, .int (nI (tk + 1))), (7, .int (nI bk)), (6, .ref ea), (5, .ref pa), (4, .ref fa), (3, .int (nI n)), (2, .ref sm), (1, .ref r), (0, .ref b)] → W p l e room_1 s m args below meth c H locs  c1 s1 Q (F0 m 173 ls [])) : ∀ (fu k : Nat), n - k < fu → k ≤ n → ∀ (WY : Nat → Int32) (c1 s1 : Nat) (H : Heap) (locs : List Loc) (ls : Array Slot), (∀ j, j < k → WY j = wayT S U V ns (T (j + 2))) → c1 ≤ c0 + 12 * k → s1 ≤ s0 + 72 * k → va_P D vwCl (([(wa, aI cI n WY), (ea, aI cI n EN), (pa, aI cI n RP), (fa, aI cI n FR)] ++ LW) ++ wRace cI cT r tr k1 k2 k3 ts ad n (nI tk) KF S U V T) H → va_D (fun q : Nat => s.heap.size ≤ q) (([(wa, aI cI n WY), (ea, aI cI n EN), (pa, aI cI n RP), (fa, aI cI n FR)] ++ LW) ++ wRace cI cT r tr k1 k2 k3 ts ad n (nI tk) KF S U V T) → va_S (fun q : Nat => s.heap.size ≤ q) s.heap H locs → lv_has ls 22 [(10, .int (nI k)), (9, .ref wa), (8, .int (nI (tk + 1))), (7, .int (nI bk)), (6, .ref ea), (5, .ref pa), (4, .ref fa), (3, .int (nI n)), (2, .ref sm), (1, .ref r), (0, .ref b)] → W p l e room_1 s m args below meth c H locs  c1 s1 Q (F0 m 95 ls []) := by
  obtain ⟨hx, hb, hml, hown, hts, hX, hXS, hXZ, hl9⟩ := id C
  obtain ⟨⟨hn1, hn4⟩, hTk, hK4, hlen, ⟨qs, g9, hSM⟩, ⟨qt, hTT⟩⟩ := id Y
  have hA : ∀ q : Nat, s.heap.size ≤ q → (fun q : Nat => s.heap.size ≤ q) q := fun _ h => h
  have hiX3 : ∀ w ∈ u_ws RX3 TX3 5, w ∈ wsL_law := inlX3
  have hiX4 : ∀ w ∈ u_ws RX4 TX4 17, w ∈ wsL_law := inlX4
  intro fu
  induction fu with
  | zero => intro k hfu; exact absurd hfu (Nat.not_lt_zero _)
  | succ fu ih =>
    intro k hfu hk WY c1 s1 H locs ls hWY hc1 hs1 hP hD hS hl
    refine lv_iload hx hb dL_law_95 (lv_at hl 0 rfl) ?_
    refine lv_iload_n hx hb dL_law_97 rfl (lv_at hl 7 rfl) ?_
    refine sp_ge (by omega) (by omega) (tgt := 173) hx hb dL_law_98 (by decide) (fun hc9 => ?_) (fun hc9 => ?_)
    · skip
      have ek : k = n := by omega
      subst ek
      exact kk WY c1 s1 H locs ls hWY (by omega) (by omega) hP hD hS (lv_sub hl [0, 1, 2, 3, 4, 5, 6, 7, 8, 9, 10] rfl)
    · skip
      have after166 : ∀ (w11 : Int32) (c2 s2 : Nat) (H : Heap) (locs : List Loc) (ls : Array Slot), c2 ≤ c1 + 10 → s2 ≤ s1 + 60 → va_P D vwCl (([(wa, aI cI n WY), (ea, aI cI n EN), (pa, aI cI n RP), (fa, aI cI n FR)] ++ LW) ++ wRace cI cT r tr k1 k2 k3 ts ad n (nI tk) KF S U V T) H → va_D (fun q : Nat => s.heap.size ≤ q) (([(wa, aI cI n WY), (ea, aI cI n EN), (pa, aI cI n RP), (fa, aI cI n FR)] ++ LW) ++ wRace cI cT r tr k1 k2 k3 ts ad n (nI tk) KF S U V T) → va_S (fun q : Nat => s.heap.size ≤ q) s.heap H locs → lv_has ls 22 [(11, .int w11), (10, .int (nI k)), (9, .ref wa), (8, .int (nI (tk + 1))), (7, .int (nI bk)), (6, .ref ea), (5, .ref pa), (4, .ref fa), (3, .int (nI n)), (2, .ref sm), (1, .ref r), (0, .ref b)] → W p l e room_1 s m args below meth c H locs  c2 s2 Q (F0 m 166 ls [.int (wayT S U V ns (T (k + 2))), .int (nI k), .ref wa]) := by
        intro w11 c2 s2 H locs ls hc2 hs2 hP hD hS hl
        refine sp_iast hx hb hX.1.1 hP hD hS 0 0 rfl rfl (by omega) (by omega) dL_law_166 (fun H locs hP hD hS => ?_)
        have hP : va_P D vwCl (([(wa, aI cI n (upd WY k (wayT S U V ns (T (k + 2))))), (ea, aI cI n EN), (pa, aI cI n RP), (fa, aI cI n FR)] ++ LW) ++ wRace cI cT r tr k1 k2 k3 ts ad n (nI tk) KF S U V T) H := hP
        have hD : va_D (fun q : Nat => s.heap.size ≤ q) (([(wa, aI cI n (upd WY k (wayT S U V ns (T (k + 2))))), (ea, aI cI n EN), (pa, aI cI n RP), (fa, aI cI n FR)] ++ LW) ++ wRace cI cT r tr k1 k2 k3 ts ad n (nI tk) KF S U V T) := hD
        refine lv_iinc (v := nI (k + 1)) (lv' := [(10, .int (nI (k + 1))), (11, .int w11), (9, .ref wa), (8, .int (nI (tk + 1))), (7, .int (nI bk)), (6, .ref ea), (5, .ref pa), (4, .ref fa), (3, .int (nI n)), (2, .ref sm), (1, .ref r), (0, .ref b)]) hx hb dL_law_167 hl (k := 1) rfl ((nI_1 k)) (by decide) rfl (fun ls hl => ?_)
        refine lv_goto (tgt := 95) hx hb dL_law_170 (by decide) ?_
        refine ih (k + 1) (by omega) (by omega) _ _ _ H locs ls (fun j hj => ?_) (by omega) (by omega) hP hD hS (lv_sub hl [0, 2, 3, 4, 5, 6, 7, 8, 9, 10, 11] rfl)
        by_cases ej : j = k
        · subst ej; exact pk_us
        · rw [pk_un ej]; exact hWY j (by omega)
      have after143 : ¬ (((T (k + 2)).1 16 < 0) ∧ (T (k + 2)).1 13 = 0 ∧ ¬ (T (k + 2)).1 12 < cPull (T (k + 2)).1) → ∀ (c2 s2 : Nat) (H : Heap) (locs : List Loc) (ls : Array Slot), c2 ≤ c1 + 8 → s2 ≤ s1 + 48 → va_P D vwCl (([(wa, aI cI n WY), (ea, aI cI n EN), (pa, aI cI n RP), (fa, aI cI n FR)] ++ LW) ++ wRace cI cT r tr k1 k2 k3 ts ad n (nI tk) KF S U V T) H → va_D (fun q : Nat => s.heap.size ≤ q) (([(wa, aI cI n WY), (ea, aI cI n EN), (pa, aI cI n RP), (fa, aI cI n FR)] ++ LW) ++ wRace cI cT r tr k1 k2 k3 ts ad n (nI tk) KF S U V T) → va_S (fun q : Nat => s.heap.size ≤ q) s.heap H locs → lv_has ls 22 [(10, .int (nI k)), (9, .ref wa), (8, .int (nI (tk + 1))), (7, .int (nI bk)), (6, .ref ea), (5, .ref pa), (4, .ref fa), (3, .int (nI n)), (2, .ref sm), (1, .ref r), (0, .ref b)] → W p l e room_1 s m args below meth c H locs  c2 s2 Q (F0 m 143 ls []) := by
        intro hgo c2 s2 H locs ls hc2 hs2 hP hD hS hl
        have ew : wayT S U V ns (T (k + 2)) = 0 := if_neg hgo
        refine lv_iconst (v := 0) hx hb dL_law_143 (by decide) ?_
        refine lv_istore (lv' := [(11, .int 0), (10, .int (nI k)), (9, .ref wa), (8, .int (nI (tk + 1))), (7, .int (nI bk)), (6, .ref ea), (5, .ref pa), (4, .ref fa), (3, .int (nI n)), (2, .ref sm), (1, .ref r), (0, .ref b)]) hx hb dL_law_144 hl (by decide) rfl (fun ls hl => ?_)
        refine lv_aload hx hb dL_law_146 (lv_at hl 2 rfl) ?_
        refine lv_iload hx hb dL_law_148 (lv_at hl 1 rfl) ?_
        refine lv_iload hx hb dL_law_150 (lv_at hl 0 rfl) ?_
        refine lv_if_eq (tgt := 165) hx hb dL_law_152 (by decide) (fun _ => ?_) (fun c => absurd (by decide) c)
        refine lv_iconst (v := 0) hx hb dL_law_165 (by decide) ?_
        refine sp_top (show 0 = wayT S U V ns (T (k + 2)) from ew.symm) ?_
        exact after166 0 c2 s2 H locs ls (by omega) (by omega) hP hD hS (lv_sub hl [0, 1, 2, 3, 4, 5, 6, 7, 8, 9, 10, 11] rfl)
      refine lv_aload_n hx hb dL_law_101 rfl (lv_at hl 9 rfl) ?_
      refine lv_iload hx hb dL_law_102 (lv_at hl 0 rfl) ?_
      refine lv_bipush (v := 8) hx hb dL_law_104 (by decide) ?_
      refine pl_sO (W0 := ([(wa, aI cI n WY), (ea, aI cI n EN), (pa, aI cI n RP), (fa, aI cI n FR)] ++ LW)) (w' := wRace cI cT r tr k1 k2 k3 ts ad n (nI tk) KF S U V T) (rest := []) (As := [.int (nI k), .int 8]) ⟨hx, hb, hml, hown, hts⟩ (mX2_team l D cI cT hl9 H.size r tr k1 k2 k3 ts ad n (by omega) (nI tk) KF S U V T (hAT.tm) (nI k) 8) (cwV 2 hts gL_law_X2_team rfl rfl rfl (by decide +kernel) ⟨Nat.le_of_ble_eq_true rfl, Nat.le_of_ble_eq_true rfl⟩) (tm_8 hc9 hn4) hX.1 hXZ hXS hP hD hS hA (xb_fst rfl cI ad _ _ _) (ci := 2) rfl rfl rfl rfl hl.1 rfl (Nat.le_of_ble_eq_true rfl) dL_law_106 ⟨by decide, by decide⟩ ⟨show c1 + 2 ≤ 600086 by omega, show s1 + 12 ≤ 7301442 by omega⟩ (fun H locs hP hD hS => ?_)
      refine lx_if_ge (tgt := 143) hx hb dL_law_109 (by decide) (fun h16 => ?_) (fun h16 => ?_)
      · skip
        exact after143 (fun z => h16 z.1) _ _ H locs ls (by omega) (by omega) hP hD hS hl
      · skip
        refine lv_aload_n hx hb dL_law_112 rfl (lv_at hl 9 rfl) ?_
        refine lv_iload hx hb dL_law_113 (lv_at hl 0 rfl) ?_
        refine lv_iconst (v := 3) hx hb dL_law_115 (by decide) ?_
        refine pl_sO (W0 := ([(wa, aI cI n WY), (ea, aI cI n EN), (pa, aI cI n RP), (fa, aI cI n FR)] ++ LW)) (w' := wRace cI cT r tr k1 k2 k3 ts ad n (nI tk) KF S U V T) (rest := []) (As := [.int (nI k), .int 3]) ⟨hx, hb, hml, hown, hts⟩ (mX2_team l D cI cT hl9 H.size r tr k1 k2 k3 ts ad n (by omega) (nI tk) KF S U V T (hAT.tm) (nI k) 3) (cwV 2 hts gL_law_X2_team rfl rfl rfl (by decide +kernel) ⟨Nat.le_of_ble_eq_true rfl, Nat.le_of_ble_eq_true rfl⟩) (tm_3 hc9 hn4) hX.1 hXZ hXS hP hD hS hA (xb_fst rfl cI ad _ _ _) (ci := 2) rfl rfl rfl rfl hl.1 rfl (Nat.le_of_ble_eq_true rfl) dL_law_116 ⟨by decide, by decide⟩ ⟨show c1 + 2 + 2 ≤ 600086 by omega, show s1 + 12 + 12 ≤ 7301442 by omega⟩ (fun H locs hP hD hS => ?_)
        refine lv_if_ne (tgt := 143) hx hb dL_law_119 (by decide) (fun h13 => ?_) (fun h13 => ?_)
        · skip
          exact after143 (fun z => h13 z.2.1) _ _ H locs ls (by omega) (by omega) hP hD hS hl
        · skip
          refine lv_aload_n hx hb dL_law_122 rfl (lv_at hl 9 rfl) ?_
          refine lv_iload hx hb dL_law_123 (lv_at hl 0 rfl) ?_
          refine lv_iconst (v := 0) hx hb dL_law_125 (by decide) ?_
          refine pl_sO (W0 := ([(wa, aI cI n WY), (ea, aI cI n EN), (pa, aI cI n RP), (fa, aI cI n FR)] ++ LW)) (w' := wRace cI cT r tr k1 k2 k3 ts ad n (nI tk) KF S U V T) (rest := []) (As := [.int (nI k), .int 0]) ⟨hx, hb, hml, hown, hts⟩ (mX2_next l D cI cT hl9 H.size r tr k1 k2 k3 ts ad n (by omega) (nI tk) KF S U V T (hAT.tm) ns hTk.2.2.1 hTk.1 (nI k) 0) (cwV 2 hts gL_law_X2_next rfl rfl rfl (by decide +kernel) ⟨Nat.le_of_ble_eq_true rfl, Nat.le_of_ble_eq_true rfl⟩) (nx_0 hc9 hn4) hX.1 hXZ hXS hP hD hS hA (xb_fst rfl cI ad _ _ _) (ci := 2) rfl rfl rfl rfl hl.1 rfl (Nat.le_of_ble_eq_true rfl) dL_law_126 ⟨by decide, by decide⟩ ⟨show c1 + 2 + 2 + 2 ≤ 600086 by omega, show s1 + 12 + 12 + 12 ≤ 7301442 by omega⟩ (fun H locs hP hD hS => ?_)
          refine lv_aload_n hx hb dL_law_129 rfl (lv_at hl 9 rfl) ?_
          refine lv_iload hx hb dL_law_130 (lv_at hl 0 rfl) ?_
          refine lv_iconst (v := 2) hx hb dL_law_132 (by decide) ?_
          refine pl_sO (W0 := ([(wa, aI cI n WY), (ea, aI cI n EN), (pa, aI cI n RP), (fa, aI cI n FR)] ++ LW)) (w' := wRace cI cT r tr k1 k2 k3 ts ad n (nI tk) KF S U V T) (rest := [.int (cPull (T (k + 2)).1)]) (As := [.int (nI k), .int 2]) ⟨hx, hb, hml, hown, hts⟩ (mX2_team l D cI cT hl9 H.size r tr k1 k2 k3 ts ad n (by omega) (nI tk) KF S U V T (hAT.tm) (nI k) 2) (cwV 2 hts gL_law_X2_team rfl rfl rfl (by decide +kernel) ⟨Nat.le_of_ble_eq_true rfl, Nat.le_of_ble_eq_true rfl⟩) (tm_2 hc9 hn4) hX.1 hXZ hXS hP hD hS hA (xb_fst rfl cI ad _ _ _) (ci := 2) rfl rfl rfl rfl hl.1 rfl (Nat.le_of_ble_eq_true rfl) dL_law_133 ⟨by decide, by decide⟩ ⟨show c1 + 2 + 2 + 2 + 2 ≤ 600086 by omega, show s1 + 12 + 12 + 12 + 12 ≤ 7301442 by omega⟩ (fun H locs hP hD hS => ?_)
          refine lv_icmp_gt (tgt := 143) hx hb dL_law_136 (by decide) (fun h12 => ?_) (fun h12 => ?_)
          · skip
            exact after143 (fun z => z.2.2 h12) _ _ H locs ls (by omega) (by omega) hP hD hS hl
          · skip
            have ew : wayT S U V ns (T (k + 2)) = cWay (T (k + 2)).1 (cPull (T (k + 2)).1) (cDragT S U V ns (T (k + 2))) := if_pos ⟨h16, h13, h12⟩
            refine lv_iconst (v := 1) hx hb dL_law_139 (by decide) ?_
            refine lv_goto (tgt := 144) hx hb dL_law_140 (by decide) ?_
            refine lv_istore (lv' := [(11, .int 1), (10, .int (nI k)), (9, .ref wa), (8, .int (nI (tk + 1))), (7, .int (nI bk)), (6, .ref ea), (5, .ref pa), (4, .ref fa), (3, .int (nI n)), (2, .ref sm), (1, .ref r), (0, .ref b)]) hx hb dL_law_144 hl (by decide) rfl (fun ls hl => ?_)
            refine lv_aload hx hb dL_law_146 (lv_at hl 2 rfl) ?_
            refine lv_iload hx hb dL_law_148 (lv_at hl 1 rfl) ?_
            refine lv_iload hx hb dL_law_150 (lv_at hl 0 rfl) ?_
            refine lv_if_eq (tgt := 165) hx hb dL_law_152 (by decide) (fun c => absurd c (by decide)) (fun _ => ?_)
            refine lv_aload_n hx hb dL_law_155 rfl (lv_at hl 10 rfl) ?_
            refine lv_iload hx hb dL_law_156 (lv_at hl 1 rfl) ?_
            refine lv_iconst (v := 2) hx hb dL_law_158 (by decide) ?_
            refine pl_sO (W0 := ([(wa, aI cI n WY), (ea, aI cI n EN), (pa, aI cI n RP), (fa, aI cI n FR)] ++ LW)) (w' := wRace cI cT r tr k1 k2 k3 ts ad n (nI tk) KF S U V T) (rest := [.int (nI k), .ref wa]) (As := [.int (nI k), .int 2]) ⟨hx, hb, hml, hown, hts⟩ (mX2_next l D cI cT hl9 H.size r tr k1 k2 k3 ts ad n (by omega) (nI tk) KF S U V T (hAT.tm) ns hTk.2.2.1 hTk.1 (nI k) 2) (cwV 2 hts gL_law_X2_next rfl rfl rfl (by decide +kernel) ⟨Nat.le_of_ble_eq_true rfl, Nat.le_of_ble_eq_true rfl⟩) (nx_2 hc9 hn4) hX.1 hXZ hXS hP hD hS hA (xb_fst rfl cI ad _ _ _) (ci := 2) rfl rfl rfl rfl hl.1 rfl (Nat.le_of_ble_eq_true rfl) dL_law_159 ⟨by decide, by decide⟩ ⟨show c1 + 2 + 2 + 2 + 2 + 2 ≤ 600086 by omega, show s1 + 12 + 12 + 12 + 12 + 12 ≤ 7301442 by omega⟩ (fun H locs hP hD hS => ?_)
            refine sp_top (show cWay (T (k + 2)).1 (cPull (T (k + 2)).1) (cDragT S U V ns (T (k + 2))) = wayT S U V ns (T (k + 2)) from ew.symm) ?_
            refine lv_goto (tgt := 166) hx hb dL_law_162 (by decide) ?_
            exact after166 1 _ _ H locs ls (by omega) (by omega) hP hD hS (lv_sub hl [0, 1, 2, 3, 4, 5, 6, 7, 8, 9, 10, 11] rfl)
