/-! p20: the law's body: a tick is run; the rollers are counted -/
set_option maxHeartbeats 8000000 in
set_option maxRecDepth 100000 in
theorem law_3 {p : Program} {l : Launch} {e : Env} {s : State} {m : MethodId} {args : Array Value} {below : List Frame} {meth : Method} {c : Code} {D : va_G} {cI cT cL cG cZ : ClassId} {Q : State → Prop} {r tr k1 k2 k3 ts b sm tt fa pa ea n ns len : Nat} {ad : Nat → Nat → Nat} {KF S U V : Nat → Int32} {f : Nat → Option Nat} {LW : va_W} (C : LX p l s m args c D cI cT cL cG cZ) (Y : LYx cL LW sm tt f n ns KF U V len) {tk bk wa c0 s0 : Nat} {T : Nat → TV} {FR RP EN WY : Nat → Int32} (hc0 : c0 ≤ 100000) (hs0 : s0 ≤ 1000000) (htk : tk < 120) (hAT : ATx cI f LW T n tk (nI len)) (kk : ∀ (T2 : Nat → TV) (za c1 s1 : Nat) (H : Heap) (locs : List Loc) (ls : Array Slot), (∀ t, t < n → T2 (t + 2) = cTickN S U V ns (nI len) (nI (tk + 1)) (T (t + 2))) → c1 ≤ c0 + 20 → s1 ≤ s0 + 100 → va_P D vwCl (([(za, aI cZ n (fun _ => 0)), (wa, aI cI n WY), (ea, aI cI n EN), (pa, aI cI n RP), (fa, aI cI n FR)] ++ LW) ++ wRace cI cT r tr k1 k2 k3 ts ad n (nI (tk + 1)) KF S U V T2) H → va_D (fun q : Nat => s.heap.size ≤ q) (([(za, aI cZ n (fun _ => 0)), (wa, aI cI n WY), (ea, aI cI n EN), (pa, aI cI n RP), (fa, aI cI n FR)] ++ LW) ++ wRace cI cT r tr k1 k2 k3 ts ad n (nI (tk + 1)) KF S U V T2) → va_S (fun q : Nat => s.heap.size ≤ q) s.heap H locs → lv_has ls 22 [(15, .int (nI 0)), (14, .ref za), (13, .int 0), (12, .int (nI 0)), (11, .int (nI (cEnded T2 n))), (9, .ref wa), (8, .int (nI (tk + 1))), (7, .int (nI bk)), (6, .ref ea), (5, .ref pa), (4, .ref fa), (3, .int (nI n)), (2, .ref sm), (1, .ref r), (0, .ref b)] → W p l e room_1 s m args below meth c H locs  c1 s1 Q (F0 m 242 ls [])) : ∀ (H : Heap) (locs : List Loc) (ls : Array Slot), va_P D vwCl (([(wa, aI cI n WY), (ea, aI cI n EN), (pa, aI cI n RP), (fa, aI cI n FR)] ++ LW) ++ wRace cI cT r tr k1 k2 k3 ts ad n (nI tk) KF S U V T) H → va_D (fun q : Nat => s.heap.size ≤ q) (([(wa, aI cI n WY), (ea, aI cI n EN), (pa, aI cI n RP), (fa, aI cI n FR)] ++ LW) ++ wRace cI cT r tr k1 k2 k3 ts ad n (nI tk) KF S U V T) → va_S (fun q : Nat => s.heap.size ≤ q) s.heap H locs → lv_has ls 22 [(9, .ref wa), (8, .int (nI (tk + 1))), (7, .int (nI bk)), (6, .ref ea), (5, .ref pa), (4, .ref fa), (3, .int (nI n)), (2, .ref sm), (1, .ref r), (0, .ref b)] → W p l e room_1 s m args below meth c H locs  c0 s0 Q (F0 m 173 ls []) := by
  obtain ⟨hx, hb, hml, hown, hts, hX, hXS, hXZ, hl9⟩ := id C
  obtain ⟨⟨hn1, hn4⟩, hTk, hK4, hlen, ⟨qs, g9, hSM⟩, ⟨qt, hTT⟩⟩ := id Y
  have hA : ∀ q : Nat, s.heap.size ≤ q → (fun q : Nat => s.heap.size ≤ q) q := fun _ h => h
  have hiX3 : ∀ w ∈ u_ws RX3 TX3 5, w ∈ wsL_law := inlX3
  have hiX4 : ∀ w ∈ u_ws RX4 TX4 17, w ∈ wsL_law := inlX4
  intro H locs ls hP hD hS hl
  obtain ⟨x, hxe⟩ : ∃ x, x = (tk + 1) % n := ⟨_, rfl⟩
  have hxn : x < n := by rw [hxe]; exact Nat.mod_lt _ hn1
  refine lv_aload_n hx hb dL_law_173 rfl (lv_at hl 8 rfl) ?_
  refine lv_iload hx hb dL_law_174 (lv_at hl 1 rfl) ?_
  refine lv_iload_n hx hb dL_law_176 rfl (lv_at hl 6 rfl) ?_
  refine lv_irem hx hb dL_law_177 (nI_ne0 hn1 (by omega)) ?_
  refine sp_top (show _ = nI x from (pk_rem (a := tk + 1) (d := n) (by omega) hn1 (by omega)).trans (by rw [hxe])) ?_
  refine lv_iconst (v := 1) hx hb dL_law_178 (by decide) ?_
  refine lv_iconst (v := 0) hx hb dL_law_179 (by decide) ?_
  refine pl_sO (W0 := ([(wa, aI cI n WY), (ea, aI cI n EN), (pa, aI cI n RP), (fa, aI cI n FR)] ++ LW)) (w' := wRace cI cT r tr k1 k2 k3 ts ad n (nI tk) KF S U V (cSee (nI x) 1 0 S U V ns (KF 4) (nI tk) T n)) (rest := []) (As := [.int (nI x), .int 1, .int 0]) ⟨hx, hb, hml, hown, hts⟩ (mX2_foresee l D cI cT hl9 H.size r tr k1 k2 k3 ts ad n (by omega) (nI tk) KF S U V T hAT.tm ns hTk.2.2.1 hTk.1 (nI x) 1 0) (cwV 3 hts gL_law_X2_foresee rfl rfl rfl (by decide +kernel) ⟨Nat.le_of_ble_eq_true rfl, Nat.le_of_ble_eq_true rfl⟩) (see_val hxn (by omega)) hX.1 hXZ hXS hP hD hS hA (xb_fst rfl cI ad _ _ _) (ci := 2) rfl rfl rfl rfl hl.1 rfl (Nat.le_of_ble_eq_true rfl) dL_law_180 ⟨by decide, by decide⟩ ⟨show c0 + 2 ≤ 600086 by omega, show s0 + 12 ≤ 7301442 by omega⟩ (fun H locs hP hD hS => ?_)
  obtain ⟨T1, hT1⟩ : ∃ z, z = (cSee (nI x) 1 0 S U V ns (KF 4) (nI tk) T n) := ⟨_, rfl⟩
  rw [← hT1] at hP hD
  have hS1 : ∀ t, T1 (t + 2) = T (t + 2) := fun t => by rw [hT1]; exact see_T t
  have hAT1 := hAT.same hS1
  have hP : va_P D vwCl (([(wa, aI cI n WY), (ea, aI cI n EN), (pa, aI cI n RP), (fa, aI cI n FR)] ++ LW) ++ wRace cI cT r tr k1 k2 k3 ts ad n (nI tk) KF S U V T1) H := hP
  have hD : va_D (fun q : Nat => s.heap.size ≤ q) (([(wa, aI cI n WY), (ea, aI cI n EN), (pa, aI cI n RP), (fa, aI cI n FR)] ++ LW) ++ wRace cI cT r tr k1 k2 k3 ts ad n (nI tk) KF S U V T1) := hD
  refine lv_topi (fun v10 ev10 => ?_)
  refine lv_istore (lv' := [(10, .int v10), (9, .ref wa), (8, .int (nI (tk + 1))), (7, .int (nI bk)), (6, .ref ea), (5, .ref pa), (4, .ref fa), (3, .int (nI n)), (2, .ref sm), (1, .ref r), (0, .ref b)]) hx hb dL_law_183 hl (by decide) rfl (fun ls hl => ?_)
  refine lv_aload_n hx hb dL_law_185 rfl (lv_at hl 9 rfl) ?_
  refine lv_iconst (v := 1) hx hb dL_law_186 (by decide) ?_
  refine pl_sO (W0 := ([(wa, aI cI n WY), (ea, aI cI n EN), (pa, aI cI n RP), (fa, aI cI n FR)] ++ LW)) (w' := wRace cI cT r tr k1 k2 k3 ts ad n (nI tk + 1) KF S U V (cRunT S U V ns (KF 4) (nI tk) T1 n (1 : Int32).toNatClampNeg)) (rest := []) (As := [.int 1]) ⟨hx, hb, hml, hown, hts⟩ (mX2_run l D cI cT hl9 H.size r tr k1 k2 k3 ts ad n (by omega) (nI tk) KF S U V T1 hAT1.tm ns hTk.2.2.1 hTk.1 1) (cwV 1 hts gL_law_X2_run rfl rfl rfl (by decide +kernel) ⟨Nat.le_of_ble_eq_true rfl, Nat.le_of_ble_eq_true rfl⟩) (run_res hn1 (by omega)) hX.1 hXZ hXS hP hD hS hA (xb_fst rfl cI ad _ _ _) (ci := 2) rfl rfl rfl rfl hl.1 rfl (Nat.le_of_ble_eq_true rfl) dL_law_187 ⟨by decide, by decide⟩ ⟨show c0 + 2 + 2 ≤ 600086 by omega, show s0 + 12 + 12 ≤ 7301442 by omega⟩ (fun H locs hP hD hS => ?_)
  obtain ⟨T2, hT2⟩ : ∃ z, z = (cRunT S U V ns (KF 4) (nI tk) T1 n (1 : Int32).toNatClampNeg) := ⟨_, rfl⟩
  rw [← hT2] at hP hD
  have hP : va_P D vwCl (([(wa, aI cI n WY), (ea, aI cI n EN), (pa, aI cI n RP), (fa, aI cI n FR)] ++ LW) ++ wRace cI cT r tr k1 k2 k3 ts ad n (nI (tk + 1)) KF S U V T2) H := by rw [← nI_1]; exact hP
  have hD : va_D (fun q : Nat => s.heap.size ≤ q) (([(wa, aI cI n WY), (ea, aI cI n EN), (pa, aI cI n RP), (fa, aI cI n FR)] ++ LW) ++ wRace cI cT r tr k1 k2 k3 ts ad n (nI (tk + 1)) KF S U V T2) := by rw [← nI_1]; exact hD
  have hT2e : ∀ t, t < n → T2 (t + 2) = cTickN S U V ns (nI len) (nI (tk + 1)) (T (t + 2)) := fun t ht => by rw [hT2, run_T ht, hS1, hK4]
  have hAT2 := (hAT.tick htk hT2e).1
  refine sp_top (show nI (cEnded (cRunT S U V ns (KF 4) (nI tk) T1 n (1 : Int32).toNatClampNeg) n) = nI (cEnded T2 n) from by rw [hT2]) ?_
  clear hT1 hT2
  refine lv_istore (lv' := [(11, .int (nI (cEnded T2 n))), (10, .int v10), (9, .ref wa), (8, .int (nI (tk + 1))), (7, .int (nI bk)), (6, .ref ea), (5, .ref pa), (4, .ref fa), (3, .int (nI n)), (2, .ref sm), (1, .ref r), (0, .ref b)]) hx hb dL_law_190 hl (by decide) rfl (fun ls hl => ?_)
  refine lv_aload_n hx hb dL_law_192 rfl (lv_at hl 10 rfl) ?_
  refine lv_iload hx hb dL_law_193 (lv_at hl 3 rfl) ?_
  refine lv_iload_n hx hb dL_law_195 rfl (lv_at hl 8 rfl) ?_
  refine lv_irem hx hb dL_law_196 (nI_ne0 hn1 (by omega)) ?_
  refine sp_top (show _ = nI x from (pk_rem (a := tk + 1) (d := n) (by omega) hn1 (by omega)).trans (by rw [hxe])) ?_
  refine lv_iconst (v := 0) hx hb dL_law_197 (by decide) ?_
  refine pl_sO (W0 := ([(wa, aI cI n WY), (ea, aI cI n EN), (pa, aI cI n RP), (fa, aI cI n FR)] ++ LW)) (w' := wRace cI cT r tr k1 k2 k3 ts ad n (nI (tk + 1)) KF S U V T2) (rest := []) (As := [.int (nI x), .int 0]) ⟨hx, hb, hml, hown, hts⟩ (mX2_team l D cI cT hl9 H.size r tr k1 k2 k3 ts ad n (by omega) (nI (tk + 1)) KF S U V T2 (hAT2.tm) (nI x) 0) (cwV 2 hts gL_law_X2_team rfl rfl rfl (by decide +kernel) ⟨Nat.le_of_ble_eq_true rfl, Nat.le_of_ble_eq_true rfl⟩) (tm_0 hxn hn4) hX.1 hXZ hXS hP hD hS hA (xb_fst rfl cI ad _ _ _) (ci := 2) rfl rfl rfl rfl hl.1 rfl (Nat.le_of_ble_eq_true rfl) dL_law_198 ⟨by decide, by decide⟩ ⟨show c0 + 2 + 2 + 2 ≤ 600086 by omega, show s0 + 12 + 12 + 12 ≤ 7301442 by omega⟩ (fun H locs hP hD hS => ?_)
  refine lv_iload hx hb dL_law_201 (lv_at hl 1 rfl) ?_
  refine lv_icmp_ne (tgt := 226) hx hb dL_law_203 (by decide) (fun c => absurd (by rw [ev10, hT2e x hxn, hK4]) c) (fun _ => ?_)
  refine lv_aload_n hx hb dL_law_206 rfl (lv_at hl 10 rfl) ?_
  refine lv_iconst (v := 0) hx hb dL_law_207 (by decide) ?_
  refine pl_sO (W0 := ([(wa, aI cI n WY), (ea, aI cI n EN), (pa, aI cI n RP), (fa, aI cI n FR)] ++ LW)) (w' := wRace cI cT r tr k1 k2 k3 ts ad n (nI (tk + 1)) KF S U V T2) (rest := []) (As := [.int 0]) ⟨hx, hb, hml, hown, hts⟩ (mX2_count l D cI cT hl9 H.size r tr k1 k2 k3 ts ad n (by omega) (nI (tk + 1)) KF S U V T2 0) (cwV 1 hts gL_law_X2_count rfl rfl rfl (by decide +kernel) ⟨Nat.le_of_ble_eq_true rfl, Nat.le_of_ble_eq_true rfl⟩) (ct_0) hX.1 hXZ hXS hP hD hS hA (xb_fst rfl cI ad _ _ _) (ci := 2) rfl rfl rfl rfl hl.1 rfl (Nat.le_of_ble_eq_true rfl) dL_law_208 ⟨by decide, by decide⟩ ⟨show c0 + 2 + 2 + 2 + 2 ≤ 600086 by omega, show s0 + 12 + 12 + 12 + 12 ≤ 7301442 by omega⟩ (fun H locs hP hD hS => ?_)
  refine lv_iload hx hb dL_law_211 (lv_at hl 3 rfl) ?_
  refine lv_icmp_ne (tgt := 226) hx hb dL_law_213 (by decide) (fun c => absurd rfl c) (fun _ => ?_)
  refine lv_iload hx hb dL_law_216 (lv_at hl 0 rfl) ?_
  refine lv_aload_n hx hb dL_law_218 rfl (lv_at hl 10 rfl) ?_
  refine lv_iconst (v := 4) hx hb dL_law_219 (by decide) ?_
  refine pl_sO (W0 := ([(wa, aI cI n WY), (ea, aI cI n EN), (pa, aI cI n RP), (fa, aI cI n FR)] ++ LW)) (w' := wRace cI cT r tr k1 k2 k3 ts ad n (nI (tk + 1)) KF S U V T2) (rest := [.int (nI (cEnded T2 n))]) (As := [.int 4]) ⟨hx, hb, hml, hown, hts⟩ (mX2_count l D cI cT hl9 H.size r tr k1 k2 k3 ts ad n (by omega) (nI (tk + 1)) KF S U V T2 4) (cwV 1 hts gL_law_X2_count rfl rfl rfl (by decide +kernel) ⟨Nat.le_of_ble_eq_true rfl, Nat.le_of_ble_eq_true rfl⟩) (ct_4) hX.1 hXZ hXS hP hD hS hA (xb_fst rfl cI ad _ _ _) (ci := 2) rfl rfl rfl rfl hl.1 rfl (Nat.le_of_ble_eq_true rfl) dL_law_220 ⟨by decide, by decide⟩ ⟨show c0 + 2 + 2 + 2 + 2 + 2 ≤ 600086 by omega, show s0 + 12 + 12 + 12 + 12 + 12 ≤ 7301442 by omega⟩ (fun H locs hP hD hS => ?_)
  refine lv_icmp_eq (tgt := 228) hx hb dL_law_223 (by decide) (fun _ => ?_) (fun c => absurd rfl c)
  refine lv_iconst (v := nI 0) hx hb dL_law_228 (by decide) ?_
  refine lv_istore (lv' := [(12, .int (nI 0)), (11, .int (nI (cEnded T2 n))), (10, .int v10), (9, .ref wa), (8, .int (nI (tk + 1))), (7, .int (nI bk)), (6, .ref ea), (5, .ref pa), (4, .ref fa), (3, .int (nI n)), (2, .ref sm), (1, .ref r), (0, .ref b)]) hx hb dL_law_229 hl (by decide) rfl (fun ls hl => ?_)
  refine lv_iconst (v := 0) hx hb dL_law_231 (by decide) ?_
  refine lv_istore (lv' := [(13, .int 0), (12, .int (nI 0)), (11, .int (nI (cEnded T2 n))), (10, .int v10), (9, .ref wa), (8, .int (nI (tk + 1))), (7, .int (nI bk)), (6, .ref ea), (5, .ref pa), (4, .ref fa), (3, .int (nI n)), (2, .ref sm), (1, .ref r), (0, .ref b)]) hx hb dL_law_232 hl (by decide) rfl (fun ls hl => ?_)
  refine lv_iload_n hx hb dL_law_234 rfl (lv_at hl 10 rfl) ?_
  refine pl_newz hx hb (hts (.arrayClass .boolean) (by decide +kernel)) hX hP hD hS hA n rfl (by omega) (show c0 + 2 + 2 + 2 + 2 + 2 + 1 ≤ 600086 by omega) (show s0 + 12 + 12 + 12 + 12 + 12 + n ≤ 7301442 by omega) dL_law_235 (fun za H hP hD hS => ?_)
  have hP : va_P D vwCl (([(za, aI cZ n (fun _ => 0)), (wa, aI cI n WY), (ea, aI cI n EN), (pa, aI cI n RP), (fa, aI cI n FR)] ++ LW) ++ wRace cI cT r tr k1 k2 k3 ts ad n (nI (tk + 1)) KF S U V T2) H := hP
  have hD : va_D (fun q : Nat => s.heap.size ≤ q) (([(za, aI cZ n (fun _ => 0)), (wa, aI cI n WY), (ea, aI cI n EN), (pa, aI cI n RP), (fa, aI cI n FR)] ++ LW) ++ wRace cI cT r tr k1 k2 k3 ts ad n (nI (tk + 1)) KF S U V T2) := hD
  refine lv_astore (lv' := [(14, .ref za), (13, .int 0), (12, .int (nI 0)), (11, .int (nI (cEnded T2 n))), (10, .int v10), (9, .ref wa), (8, .int (nI (tk + 1))), (7, .int (nI bk)), (6, .ref ea), (5, .ref pa), (4, .ref fa), (3, .int (nI n)), (2, .ref sm), (1, .ref r), (0, .ref b)]) hx hb dL_law_237 hl (by decide) rfl (fun ls hl => ?_)
  refine lv_iconst (v := nI 0) hx hb dL_law_239 (by decide) ?_
  refine lv_istore (lv' := [(15, .int (nI 0)), (14, .ref za), (13, .int 0), (12, .int (nI 0)), (11, .int (nI (cEnded T2 n))), (10, .int v10), (9, .ref wa), (8, .int (nI (tk + 1))), (7, .int (nI bk)), (6, .ref ea), (5, .ref pa), (4, .ref fa), (3, .int (nI n)), (2, .ref sm), (1, .ref r), (0, .ref b)]) hx hb dL_law_240 hl (by decide) rfl (fun ls hl => ?_)
  exact kk T2 za _ _ H locs ls hT2e (by omega) (by omega) hP hD hS (lv_sub hl [0, 1, 2, 3, 4, 6, 7, 8, 9, 10, 11, 12, 13, 14, 15] rfl)
set_option maxHeartbeats 8000000 in
set_option maxRecDepth 100000 in
theorem cnt_t {q : Nat → Bool} {k : Nat} (h : q k = true) : cnt q (k + 1) = cnt q k + 1 := by show cnt q k + (if q k = true then 1 else 0) = _; rw [if_pos h]
theorem cnt_f {q : Nat → Bool} {k : Nat} (h : q k = false) : cnt q (k + 1) = cnt q k := by show cnt q k + (if q k = true then 1 else 0) = _; rw [h]; rfl
set_option maxHeartbeats 8000000 in
set_option maxRecDepth 100000 in
theorem law_5 {p : Program} {l : Launch} {e : Env} {s : State} {m : MethodId} {args : Array Value} {below : List Frame} {meth : Method} {c : Code} {D : va_G} {cI cT cL cG cZ : ClassId} {Q : State → Prop} {r tr k1 k2 k3 ts b sm tt fa pa ea n ns len : Nat} {ad : Nat → Nat → Nat} {KF S U V : Nat → Int32} {f : Nat → Option Nat} {LW : va_W} (C : LX p l s m args c D cI cT cL cG cZ) (Y : LYx cL LW sm tt f n ns KF U V len) {tk bk wa za t nr9 c0 s0 : Nat} {s13 a12 e11 : Int32} {T : Nat → TV} {FR RP EN WY Z : Nat → Int32} (hc0 : c0 ≤ 200000) (hs0 : s0 ≤ 2000000) (ht : t < n) (hok : cOK (T (t + 2))) (hcn : cN (T (t + 2)) = nr9) (hnr9 : nr9 ≤ 8) (hLR : LRf cI f LW (T (t + 2)) t) (hfl : ∀ x : Int32, x < (T (t + 2)).1 10 - (T (t + 2)).1 1 → ¬ (T (t + 2)).1 10 < x) (kk : ∀ (uu ub c1 s1 : Nat) (H : Heap) (locs : List Loc) (ls : Array Slot), uu = cLie (T (t + 2)).1 (T (t + 2)).2.1 nr9 0 → ub = cLie (T (t + 2)).1 (T (t + 2)).2.1 nr9 1 → c1 ≤ c0 + 16 → s1 ≤ s0 + 96 → va_P D vwCl (([(za, aI cZ n Z), (wa, aI cI n WY), (ea, aI cI n EN), (pa, aI cI n RP), (fa, aI cI n FR)] ++ LW) ++ wRace cI cT r tr k1 k2 k3 ts ad n (nI (tk + 1)) KF S U V T) H → va_D (fun q : Nat => s.heap.size ≤ q) (([(za, aI cZ n Z), (wa, aI cI n WY), (ea, aI cI n EN), (pa, aI cI n RP), (fa, aI cI n FR)] ++ LW) ++ wRace cI cT r tr k1 k2 k3 ts ad n (nI (tk + 1)) KF S U V T) → va_S (fun q : Nat => s.heap.size ≤ q) s.heap H locs → lv_has ls 22 [(19, .int (nI ub)), (18, .int (nI uu)), (17, .int (nI nr9)), (16, .int ((T (t + 2)).1 10)), (15, .int (nI t)), (14, .ref za), (13, .int s13), (12, .int a12), (11, .int e11), (9, .ref wa), (8, .int (nI (tk + 1))), (7, .int (nI bk)), (6, .ref ea), (5, .ref pa), (4, .ref fa), (3, .int (nI n)), (2, .ref sm), (1, .ref r), (0, .ref b)] → W p l e room_1 s m args below meth c H locs  c1 s1 Q (F0 m 381 ls [])) : ∀ (fu k : Nat), nr9 - k < fu → k ≤ nr9 → ∀ (uu ub c1 s1 : Nat) (H : Heap) (locs : List Loc) (ls : Array Slot), uu = cnt (fun j => decide (cSide (T (t + 2)).1 ((T (t + 2)).2.1 j) = 0)) k → ub = cnt (fun j => decide (cSide (T (t + 2)).1 ((T (t + 2)).2.1 j) = 1)) k → c1 ≤ c0 + 2 * k → s1 ≤ s0 + 12 * k → va_P D vwCl (([(za, aI cZ n Z), (wa, aI cI n WY), (ea, aI cI n EN), (pa, aI cI n RP), (fa, aI cI n FR)] ++ LW) ++ wRace cI cT r tr k1 k2 k3 ts ad n (nI (tk + 1)) KF S U V T) H → va_D (fun q : Nat => s.heap.size ≤ q) (([(za, aI cZ n Z), (wa, aI cI n WY), (ea, aI cI n EN), (pa, aI cI n RP), (fa, aI cI n FR)] ++ LW) ++ wRace cI cT r tr k1 k2 k3 ts ad n (nI (tk + 1)) KF S U V T) → va_S (fun q : Nat => s.heap.size ≤ q) s.heap H locs → lv_has ls 22 [(20, .int (nI k)), (19, .int (nI ub)), (18, .int (nI uu)), (17, .int (nI nr9)), (16, .int ((T (t + 2)).1 10)), (15, .int (nI t)), (14, .ref za), (13, .int s13), (12, .int a12), (11, .int e11), (9, .ref wa), (8, .int (nI (tk + 1))), (7, .int (nI bk)), (6, .ref ea), (5, .ref pa), (4, .ref fa), (3, .int (nI n)), (2, .ref sm), (1, .ref r), (0, .ref b)] → W p l e room_1 s m args below meth c H locs  c1 s1 Q (F0 m 279 ls []) := by
  obtain ⟨hx, hb, hml, hown, hts, hX, hXS, hXZ, hl9⟩ := id C
  obtain ⟨⟨hn1, hn4⟩, hTk, hK4, hlen, ⟨qs, g9, hSM⟩, ⟨qt, hTT⟩⟩ := id Y
  have hA : ∀ q : Nat, s.heap.size ≤ q → (fun q : Nat => s.heap.size ≤ q) q := fun _ h => h
  have hiX3 : ∀ w ∈ u_ws RX3 TX3 5, w ∈ wsL_law := inlX3
  have hiX4 : ∀ w ∈ u_ws RX4 TX4 17, w ∈ wsL_law := inlX4
  obtain ⟨ta, q1, ra, q2, ha, q3, ca, lf, F9, P9, G9, nr, nh, w9, ln, hta, hq1, hq2, hq3, hF90, hF91, hT1, hT2, hT3, hT6, hnr, hnh, hw9, hln⟩ := id hLR
  rw [hT1] at hfl
  intro fu
  induction fu with
  | zero => intro k hfu; exact absurd hfu (Nat.not_lt_zero _)
  | succ fu ih =>
    intro k hfu hk uu ub c1 s1 H locs ls huu hub hc1 hs1 hP hD hS hl
    refine lv_iload hx hb dL_law_279 (lv_at hl 0 rfl) ?_
    refine lv_iload hx hb dL_law_281 (lv_at hl 3 rfl) ?_
    refine sp_ge (by omega) (by omega) (tgt := 381) hx hb dL_law_283 (by decide) (fun hc9 => ?_) (fun hc9 => ?_)
    · skip
      have ek : k = nr9 := by omega
      subst ek
      exact kk uu ub c1 s1 H locs ls huu hub (by omega) (by omega) hP hD hS (lv_sub hl [1, 2, 3, 4, 5, 6, 7, 8, 9, 10, 11, 12, 13, 14, 15, 16, 17, 18, 19] rfl)
    · skip
      refine lv_aload_n hx hb dL_law_286 rfl (lv_at hl 18 rfl) ?_
      refine lv_iload hx hb dL_law_287 (lv_at hl 5 rfl) ?_
      refine lv_iload hx hb dL_law_289 (lv_at hl 0 rfl) ?_
      refine pl_pO (W0 := ([(za, aI cZ n Z), (wa, aI cI n WY), (ea, aI cI n EN), (pa, aI cI n RP), (fa, aI cI n FR)] ++ LW)) (w := wRace cI cT r tr k1 k2 k3 ts ad n (nI (tk + 1)) KF S U V T) (rest := []) (As := [.int (nI t), .int (nI k)]) ⟨hx, hb, hml, hown, hts⟩ (mL_placeOf l D cI cT hl9 H.size r tr k1 k2 k3 ts ad n (by omega) (nI (tk + 1)) KF S U V T t k ht hok (by rw [hcn]; exact hc9)) (vx_cwSW 3 hts gL_law_L_placeOf rfl rfl rfl (by decide +kernel) ⟨Nat.le_of_ble_eq_true rfl, Nat.le_of_ble_eq_true rfl⟩) hX.1 hXZ hXS hP hD hS hA rfl hl.1 rfl (Nat.le_of_ble_eq_true rfl) dL_law_291 ⟨by decide, by decide⟩ ⟨show c1 + 2 ≤ 600086 by omega, show s1 + 12 ≤ 7301442 by omega⟩ (fun H locs hP hD hS => ?_)
      refine lv_topi (fun x ex => ?_)
      refine lv_istore (lv' := [(21, .int x), (20, .int (nI k)), (19, .int (nI ub)), (18, .int (nI uu)), (17, .int (nI nr9)), (16, .int ((T (t + 2)).1 10)), (15, .int (nI t)), (14, .ref za), (13, .int s13), (12, .int a12), (11, .int e11), (9, .ref wa), (8, .int (nI (tk + 1))), (7, .int (nI bk)), (6, .ref ea), (5, .ref pa), (4, .ref fa), (3, .int (nI n)), (2, .ref sm), (1, .ref r), (0, .ref b)]) hx hb dL_law_294 hl (by decide) rfl (fun ls hl => ?_)
      by_cases h1 : x = -9999
      · skip
        have hsd : cSide (T (t + 2)).1 ((T (t + 2)).2.1 k) = 3 := by rw [← ex]; unfold cSide; rw [hT1]; exact if_pos h1
        refine lv_iload hx hb dL_law_296 (lv_at hl 3 rfl) ?_
        refine lv_iload hx hb dL_law_298 (lv_at hl 0 rfl) ?_
        refine lv_sipush (v := (-9999)) hx hb dL_law_300 (by decide) ?_
        refine lv_icmp_eq (tgt := 335) hx hb dL_law_303 (by decide) (fun _ => ?_) (fun c => absurd h1 c)
        refine lv_iconst (v := nI 0) hx hb dL_law_335 (by decide) ?_
        refine lv_iadd hx hb dL_law_336 ?_
        refine sp_top (show (nI uu) + (nI 0) = nI (uu + 0) from nI_add uu 0) ?_
        refine lv_istore (lv' := [(18, .int (nI (uu + 0))), (21, .int x), (20, .int (nI k)), (19, .int (nI ub)), (17, .int (nI nr9)), (16, .int ((T (t + 2)).1 10)), (15, .int (nI t)), (14, .ref za), (13, .int s13), (12, .int a12), (11, .int e11), (9, .ref wa), (8, .int (nI (tk + 1))), (7, .int (nI bk)), (6, .ref ea), (5, .ref pa), (4, .ref fa), (3, .int (nI n)), (2, .ref sm), (1, .ref r), (0, .ref b)]) hx hb dL_law_337 hl (by decide) rfl (fun ls hl => ?_)
        refine lv_iload hx hb dL_law_339 (lv_at hl 3 rfl) ?_
        refine lv_iload hx hb dL_law_341 (lv_at hl 1 rfl) ?_
        refine lv_sipush (v := (-9999)) hx hb dL_law_343 (by decide) ?_
        refine lv_icmp_eq (tgt := 371) hx hb dL_law_346 (by decide) (fun _ => ?_) (fun c => absurd h1 c)
        refine lv_iconst (v := nI 0) hx hb dL_law_371 (by decide) ?_
        refine lv_iadd hx hb dL_law_372 ?_
        refine sp_top (show (nI ub) + (nI 0) = nI (ub + 0) from nI_add ub 0) ?_
        refine lv_istore (lv' := [(19, .int (nI (ub + 0))), (18, .int (nI (uu + 0))), (21, .int x), (20, .int (nI k)), (17, .int (nI nr9)), (16, .int ((T (t + 2)).1 10)), (15, .int (nI t)), (14, .ref za), (13, .int s13), (12, .int a12), (11, .int e11), (9, .ref wa), (8, .int (nI (tk + 1))), (7, .int (nI bk)), (6, .ref ea), (5, .ref pa), (4, .ref fa), (3, .int (nI n)), (2, .ref sm), (1, .ref r), (0, .ref b)]) hx hb dL_law_373 hl (by decide) rfl (fun ls hl => ?_)
        refine lv_iinc (v := nI (k + 1)) (lv' := [(20, .int (nI (k + 1))), (19, .int (nI (ub + 0))), (18, .int (nI (uu + 0))), (21, .int x), (17, .int (nI nr9)), (16, .int ((T (t + 2)).1 10)), (15, .int (nI t)), (14, .ref za), (13, .int s13), (12, .int a12), (11, .int e11), (9, .ref wa), (8, .int (nI (tk + 1))), (7, .int (nI bk)), (6, .ref ea), (5, .ref pa), (4, .ref fa), (3, .int (nI n)), (2, .ref sm), (1, .ref r), (0, .ref b)]) hx hb dL_law_375 hl (k := 3) rfl ((nI_1 k)) (by decide) rfl (fun ls hl => ?_)
        refine lv_goto (tgt := 279) hx hb dL_law_378 (by decide) ?_
        exact ih (k + 1) (by omega) (by omega) _ _ _ _ H locs ls (show uu + 0 = cnt (fun j => decide (cSide (T (t + 2)).1 ((T (t + 2)).2.1 j) = 0)) (k + 1) by have h9 := cnt_f (q := (fun j => decide (cSide (T (t + 2)).1 ((T (t + 2)).2.1 j) = 0))) (decide_eq_false (by rw [hsd]; decide)); omega) (show ub + 0 = cnt (fun j => decide (cSide (T (t + 2)).1 ((T (t + 2)).2.1 j) = 1)) (k + 1) by have h9 := cnt_f (q := (fun j => decide (cSide (T (t + 2)).1 ((T (t + 2)).2.1 j) = 1))) (decide_eq_false (by rw [hsd]; decide)); omega) (by omega) (by omega) hP hD hS (lv_sub hl [0, 1, 2, 4, 5, 6, 7, 8, 9, 10, 11, 12, 13, 14, 15, 16, 17, 18, 19, 20] rfl)
      by_cases h2 : x < (T (t + 2)).1 10 - nI ln
      · skip
        have hsd : cSide (T (t + 2)).1 ((T (t + 2)).2.1 k) = 1 := by rw [← ex]; unfold cSide; rw [hT1]; exact (if_neg h1).trans (if_pos h2)
        refine lv_iload hx hb dL_law_296 (lv_at hl 3 rfl) ?_
        refine lv_iload hx hb dL_law_298 (lv_at hl 0 rfl) ?_
        refine lv_sipush (v := (-9999)) hx hb dL_law_300 (by decide) ?_
        refine lv_icmp_eq (tgt := 335) hx hb dL_law_303 (by decide) (fun c => absurd c h1) (fun _ => ?_)
        refine lv_iload hx hb dL_law_306 (lv_at hl 0 rfl) ?_
        refine lv_iload hx hb dL_law_308 (lv_at hl 5 rfl) ?_
        refine lv_icmp_gt (tgt := 335) hx hb dL_law_310 (by decide) (fun c => absurd c (hfl x h2)) (fun _ => ?_)
        refine lv_iload hx hb dL_law_313 (lv_at hl 0 rfl) ?_
        refine lv_iload hx hb dL_law_315 (lv_at hl 5 rfl) ?_
        refine lv_aload_n hx hb dL_law_317 rfl (lv_at hl 18 rfl) ?_
        refine va_get (D := D) (ci := 3) (v := .ref tt) (C := RX3) (T := TX3) (N := 5) hx hb hts hiX3 hown hX.2.1 hP (qs + 5) (show _ = some (sm, oSv 0 (nI len) 0 g9 (.ref tt)) from pl_at hSM) rfl 4 (by decide) (hts (.fieldLink RL 45 "SledgeRaceLaw$Sim" "teams" "[LSledgeRaceLaw$Team;") (by decide +kernel)) (fun _ h9 => h9) rfl dL_law_318 ?_
        refine lv_iload hx hb dL_law_321 (lv_at hl 6 rfl) ?_
        refine pl_lld hx hb hX hP (qt + 5) (show _ = some (tt, aQ cL n f) from pl_at hTT) ht (by omega) hta dL_law_323 ?_
        refine va_get (D := D) (ci := 4) (v := .int (F9 0)) (C := RX4) (T := TX4) (N := 17) hx hb hts hiX4 hown hX.2.1 hP (q1 + 5) (show _ = some (ta, oYv F9 (.ref ra) ca (.ref ha) lf) from pl_at hq1) rfl 0 (by decide) (hts (.fieldLink RL 50 "SledgeRaceLaw$Team" "length" "I") (by decide +kernel)) (fun _ h9 => h9) rfl dL_law_324 ?_
        refine sp_top (show F9 0 = nI ln from hF90) ?_
        refine lv_isub hx hb dL_law_327 ?_
        refine lv_icmp_lt (tgt := 335) hx hb dL_law_328 (by decide) (fun _ => ?_) (fun c => absurd h2 c)
        refine lv_iconst (v := nI 0) hx hb dL_law_335 (by decide) ?_
        refine lv_iadd hx hb dL_law_336 ?_
        refine sp_top (show (nI uu) + (nI 0) = nI (uu + 0) from nI_add uu 0) ?_
        refine lv_istore (lv' := [(18, .int (nI (uu + 0))), (21, .int x), (20, .int (nI k)), (19, .int (nI ub)), (17, .int (nI nr9)), (16, .int ((T (t + 2)).1 10)), (15, .int (nI t)), (14, .ref za), (13, .int s13), (12, .int a12), (11, .int e11), (9, .ref wa), (8, .int (nI (tk + 1))), (7, .int (nI bk)), (6, .ref ea), (5, .ref pa), (4, .ref fa), (3, .int (nI n)), (2, .ref sm), (1, .ref r), (0, .ref b)]) hx hb dL_law_337 hl (by decide) rfl (fun ls hl => ?_)
        refine lv_iload hx hb dL_law_339 (lv_at hl 3 rfl) ?_
        refine lv_iload hx hb dL_law_341 (lv_at hl 1 rfl) ?_
        refine lv_sipush (v := (-9999)) hx hb dL_law_343 (by decide) ?_
        refine lv_icmp_eq (tgt := 371) hx hb dL_law_346 (by decide) (fun c => absurd c h1) (fun _ => ?_)
        refine lv_iload hx hb dL_law_349 (lv_at hl 1 rfl) ?_
        refine lv_iload hx hb dL_law_351 (lv_at hl 5 rfl) ?_
        refine lv_aload_n hx hb dL_law_353 rfl (lv_at hl 18 rfl) ?_
        refine va_get (D := D) (ci := 3) (v := .ref tt) (C := RX3) (T := TX3) (N := 5) hx hb hts hiX3 hown hX.2.1 hP (qs + 5) (show _ = some (sm, oSv 0 (nI len) 0 g9 (.ref tt)) from pl_at hSM) rfl 4 (by decide) (hts (.fieldLink RL 45 "SledgeRaceLaw$Sim" "teams" "[LSledgeRaceLaw$Team;") (by decide +kernel)) (fun _ h9 => h9) rfl dL_law_354 ?_
        refine lv_iload hx hb dL_law_357 (lv_at hl 6 rfl) ?_
        refine pl_lld hx hb hX hP (qt + 5) (show _ = some (tt, aQ cL n f) from pl_at hTT) ht (by omega) hta dL_law_359 ?_
        refine va_get (D := D) (ci := 4) (v := .int (F9 0)) (C := RX4) (T := TX4) (N := 17) hx hb hts hiX4 hown hX.2.1 hP (q1 + 5) (show _ = some (ta, oYv F9 (.ref ra) ca (.ref ha) lf) from pl_at hq1) rfl 0 (by decide) (hts (.fieldLink RL 50 "SledgeRaceLaw$Team" "length" "I") (by decide +kernel)) (fun _ h9 => h9) rfl dL_law_360 ?_
        refine sp_top (show F9 0 = nI ln from hF90) ?_
        refine lv_isub hx hb dL_law_363 ?_
        refine lx_icmp_ge (tgt := 371) hx hb dL_law_364 (by decide) (fun c => absurd h2 c) (fun _ => ?_)
        refine lv_iconst (v := nI 1) hx hb dL_law_367 (by decide) ?_
        refine lv_goto (tgt := 372) hx hb dL_law_368 (by decide) ?_
        refine lv_iadd hx hb dL_law_372 ?_
        refine sp_top (show (nI ub) + (nI 1) = nI (ub + 1) from nI_add ub 1) ?_
        refine lv_istore (lv' := [(19, .int (nI (ub + 1))), (18, .int (nI (uu + 0))), (21, .int x), (20, .int (nI k)), (17, .int (nI nr9)), (16, .int ((T (t + 2)).1 10)), (15, .int (nI t)), (14, .ref za), (13, .int s13), (12, .int a12), (11, .int e11), (9, .ref wa), (8, .int (nI (tk + 1))), (7, .int (nI bk)), (6, .ref ea), (5, .ref pa), (4, .ref fa), (3, .int (nI n)), (2, .ref sm), (1, .ref r), (0, .ref b)]) hx hb dL_law_373 hl (by decide) rfl (fun ls hl => ?_)
        refine lv_iinc (v := nI (k + 1)) (lv' := [(20, .int (nI (k + 1))), (19, .int (nI (ub + 1))), (18, .int (nI (uu + 0))), (21, .int x), (17, .int (nI nr9)), (16, .int ((T (t + 2)).1 10)), (15, .int (nI t)), (14, .ref za), (13, .int s13), (12, .int a12), (11, .int e11), (9, .ref wa), (8, .int (nI (tk + 1))), (7, .int (nI bk)), (6, .ref ea), (5, .ref pa), (4, .ref fa), (3, .int (nI n)), (2, .ref sm), (1, .ref r), (0, .ref b)]) hx hb dL_law_375 hl (k := 3) rfl ((nI_1 k)) (by decide) rfl (fun ls hl => ?_)
        refine lv_goto (tgt := 279) hx hb dL_law_378 (by decide) ?_
        exact ih (k + 1) (by omega) (by omega) _ _ _ _ H locs ls (show uu + 0 = cnt (fun j => decide (cSide (T (t + 2)).1 ((T (t + 2)).2.1 j) = 0)) (k + 1) by have h9 := cnt_f (q := (fun j => decide (cSide (T (t + 2)).1 ((T (t + 2)).2.1 j) = 0))) (decide_eq_false (by rw [hsd]; decide)); omega) (show ub + 1 = cnt (fun j => decide (cSide (T (t + 2)).1 ((T (t + 2)).2.1 j) = 1)) (k + 1) by have h9 := cnt_t (q := (fun j => decide (cSide (T (t + 2)).1 ((T (t + 2)).2.1 j) = 1))) (decide_eq_true hsd); omega) (by omega) (by omega) hP hD hS (lv_sub hl [0, 1, 2, 4, 5, 6, 7, 8, 9, 10, 11, 12, 13, 14, 15, 16, 17, 18, 19, 20] rfl)
      by_cases h3 : (T (t + 2)).1 10 < x
      · skip
        have hsd : cSide (T (t + 2)).1 ((T (t + 2)).2.1 k) = 2 := by rw [← ex]; unfold cSide; rw [hT1]; exact (if_neg h1).trans ((if_neg h2).trans (if_pos h3))
        refine lv_iload hx hb dL_law_296 (lv_at hl 3 rfl) ?_
        refine lv_iload hx hb dL_law_298 (lv_at hl 0 rfl) ?_
        refine lv_sipush (v := (-9999)) hx hb dL_law_300 (by decide) ?_
        refine lv_icmp_eq (tgt := 335) hx hb dL_law_303 (by decide) (fun c => absurd c h1) (fun _ => ?_)
        refine lv_iload hx hb dL_law_306 (lv_at hl 0 rfl) ?_
        refine lv_iload hx hb dL_law_308 (lv_at hl 5 rfl) ?_
        refine lv_icmp_gt (tgt := 335) hx hb dL_law_310 (by decide) (fun _ => ?_) (fun c => absurd h3 c)
        refine lv_iconst (v := nI 0) hx hb dL_law_335 (by decide) ?_
        refine lv_iadd hx hb dL_law_336 ?_
        refine sp_top (show (nI uu) + (nI 0) = nI (uu + 0) from nI_add uu 0) ?_
        refine lv_istore (lv' := [(18, .int (nI (uu + 0))), (21, .int x), (20, .int (nI k)), (19, .int (nI ub)), (17, .int (nI nr9)), (16, .int ((T (t + 2)).1 10)), (15, .int (nI t)), (14, .ref za), (13, .int s13), (12, .int a12), (11, .int e11), (9, .ref wa), (8, .int (nI (tk + 1))), (7, .int (nI bk)), (6, .ref ea), (5, .ref pa), (4, .ref fa), (3, .int (nI n)), (2, .ref sm), (1, .ref r), (0, .ref b)]) hx hb dL_law_337 hl (by decide) rfl (fun ls hl => ?_)
        refine lv_iload hx hb dL_law_339 (lv_at hl 3 rfl) ?_
        refine lv_iload hx hb dL_law_341 (lv_at hl 1 rfl) ?_
        refine lv_sipush (v := (-9999)) hx hb dL_law_343 (by decide) ?_
        refine lv_icmp_eq (tgt := 371) hx hb dL_law_346 (by decide) (fun c => absurd c h1) (fun _ => ?_)
        refine lv_iload hx hb dL_law_349 (lv_at hl 1 rfl) ?_
        refine lv_iload hx hb dL_law_351 (lv_at hl 5 rfl) ?_
        refine lv_aload_n hx hb dL_law_353 rfl (lv_at hl 18 rfl) ?_
        refine va_get (D := D) (ci := 3) (v := .ref tt) (C := RX3) (T := TX3) (N := 5) hx hb hts hiX3 hown hX.2.1 hP (qs + 5) (show _ = some (sm, oSv 0 (nI len) 0 g9 (.ref tt)) from pl_at hSM) rfl 4 (by decide) (hts (.fieldLink RL 45 "SledgeRaceLaw$Sim" "teams" "[LSledgeRaceLaw$Team;") (by decide +kernel)) (fun _ h9 => h9) rfl dL_law_354 ?_
        refine lv_iload hx hb dL_law_357 (lv_at hl 6 rfl) ?_
        refine pl_lld hx hb hX hP (qt + 5) (show _ = some (tt, aQ cL n f) from pl_at hTT) ht (by omega) hta dL_law_359 ?_
        refine va_get (D := D) (ci := 4) (v := .int (F9 0)) (C := RX4) (T := TX4) (N := 17) hx hb hts hiX4 hown hX.2.1 hP (q1 + 5) (show _ = some (ta, oYv F9 (.ref ra) ca (.ref ha) lf) from pl_at hq1) rfl 0 (by decide) (hts (.fieldLink RL 50 "SledgeRaceLaw$Team" "length" "I") (by decide +kernel)) (fun _ h9 => h9) rfl dL_law_360 ?_
        refine sp_top (show F9 0 = nI ln from hF90) ?_
        refine lv_isub hx hb dL_law_363 ?_
        refine lx_icmp_ge (tgt := 371) hx hb dL_law_364 (by decide) (fun _ => ?_) (fun c => absurd c h2)
        refine lv_iconst (v := nI 0) hx hb dL_law_371 (by decide) ?_
        refine lv_iadd hx hb dL_law_372 ?_
        refine sp_top (show (nI ub) + (nI 0) = nI (ub + 0) from nI_add ub 0) ?_
        refine lv_istore (lv' := [(19, .int (nI (ub + 0))), (18, .int (nI (uu + 0))), (21, .int x), (20, .int (nI k)), (17, .int (nI nr9)), (16, .int ((T (t + 2)).1 10)), (15, .int (nI t)), (14, .ref za), (13, .int s13), (12, .int a12), (11, .int e11), (9, .ref wa), (8, .int (nI (tk + 1))), (7, .int (nI bk)), (6, .ref ea), (5, .ref pa), (4, .ref fa), (3, .int (nI n)), (2, .ref sm), (1, .ref r), (0, .ref b)]) hx hb dL_law_373 hl (by decide) rfl (fun ls hl => ?_)
        refine lv_iinc (v := nI (k + 1)) (lv' := [(20, .int (nI (k + 1))), (19, .int (nI (ub + 0))), (18, .int (nI (uu + 0))), (21, .int x), (17, .int (nI nr9)), (16, .int ((T (t + 2)).1 10)), (15, .int (nI t)), (14, .ref za), (13, .int s13), (12, .int a12), (11, .int e11), (9, .ref wa), (8, .int (nI (tk + 1))), (7, .int (nI bk)), (6, .ref ea), (5, .ref pa), (4, .ref fa), (3, .int (nI n)), (2, .ref sm), (1, .ref r), (0, .ref b)]) hx hb dL_law_375 hl (k := 3) rfl ((nI_1 k)) (by decide) rfl (fun ls hl => ?_)
        refine lv_goto (tgt := 279) hx hb dL_law_378 (by decide) ?_
        exact ih (k + 1) (by omega) (by omega) _ _ _ _ H locs ls (show uu + 0 = cnt (fun j => decide (cSide (T (t + 2)).1 ((T (t + 2)).2.1 j) = 0)) (k + 1) by have h9 := cnt_f (q := (fun j => decide (cSide (T (t + 2)).1 ((T (t + 2)).2.1 j) = 0))) (decide_eq_false (by rw [hsd]; decide)); omega) (show ub + 0 = cnt (fun j => decide (cSide (T (t + 2)).1 ((T (t + 2)).2.1 j) = 1)) (k + 1) by have h9 := cnt_f (q := (fun j => decide (cSide (T (t + 2)).1 ((T (t + 2)).2.1 j) = 1))) (decide_eq_false (by rw [hsd]; decide)); omega) (by omega) (by omega) hP hD hS (lv_sub hl [0, 1, 2, 4, 5, 6, 7, 8, 9, 10, 11, 12, 13, 14, 15, 16, 17, 18, 19, 20] rfl)
      have hsd : cSide (T (t + 2)).1 ((T (t + 2)).2.1 k) = 0 := by rw [← ex]; unfold cSide; rw [hT1]; exact (if_neg h1).trans ((if_neg h2).trans (if_neg h3))
      refine lv_iload hx hb dL_law_296 (lv_at hl 3 rfl) ?_
      refine lv_iload hx hb dL_law_298 (lv_at hl 0 rfl) ?_
      refine lv_sipush (v := (-9999)) hx hb dL_law_300 (by decide) ?_
      refine lv_icmp_eq (tgt := 335) hx hb dL_law_303 (by decide) (fun c => absurd c h1) (fun _ => ?_)
      refine lv_iload hx hb dL_law_306 (lv_at hl 0 rfl) ?_
      refine lv_iload hx hb dL_law_308 (lv_at hl 5 rfl) ?_
      refine lv_icmp_gt (tgt := 335) hx hb dL_law_310 (by decide) (fun c => absurd c h3) (fun _ => ?_)
      refine lv_iload hx hb dL_law_313 (lv_at hl 0 rfl) ?_
      refine lv_iload hx hb dL_law_315 (lv_at hl 5 rfl) ?_
      refine lv_aload_n hx hb dL_law_317 rfl (lv_at hl 18 rfl) ?_
      refine va_get (D := D) (ci := 3) (v := .ref tt) (C := RX3) (T := TX3) (N := 5) hx hb hts hiX3 hown hX.2.1 hP (qs + 5) (show _ = some (sm, oSv 0 (nI len) 0 g9 (.ref tt)) from pl_at hSM) rfl 4 (by decide) (hts (.fieldLink RL 45 "SledgeRaceLaw$Sim" "teams" "[LSledgeRaceLaw$Team;") (by decide +kernel)) (fun _ h9 => h9) rfl dL_law_318 ?_
      refine lv_iload hx hb dL_law_321 (lv_at hl 6 rfl) ?_
      refine pl_lld hx hb hX hP (qt + 5) (show _ = some (tt, aQ cL n f) from pl_at hTT) ht (by omega) hta dL_law_323 ?_
      refine va_get (D := D) (ci := 4) (v := .int (F9 0)) (C := RX4) (T := TX4) (N := 17) hx hb hts hiX4 hown hX.2.1 hP (q1 + 5) (show _ = some (ta, oYv F9 (.ref ra) ca (.ref ha) lf) from pl_at hq1) rfl 0 (by decide) (hts (.fieldLink RL 50 "SledgeRaceLaw$Team" "length" "I") (by decide +kernel)) (fun _ h9 => h9) rfl dL_law_324 ?_
      refine sp_top (show F9 0 = nI ln from hF90) ?_
      refine lv_isub hx hb dL_law_327 ?_
      refine lv_icmp_lt (tgt := 335) hx hb dL_law_328 (by decide) (fun c => absurd c h2) (fun _ => ?_)
      refine lv_iconst (v := nI 1) hx hb dL_law_331 (by decide) ?_
      refine lv_goto (tgt := 336) hx hb dL_law_332 (by decide) ?_
      refine lv_iadd hx hb dL_law_336 ?_
      refine sp_top (show (nI uu) + (nI 1) = nI (uu + 1) from nI_add uu 1) ?_
      refine lv_istore (lv' := [(18, .int (nI (uu + 1))), (21, .int x), (20, .int (nI k)), (19, .int (nI ub)), (17, .int (nI nr9)), (16, .int ((T (t + 2)).1 10)), (15, .int (nI t)), (14, .ref za), (13, .int s13), (12, .int a12), (11, .int e11), (9, .ref wa), (8, .int (nI (tk + 1))), (7, .int (nI bk)), (6, .ref ea), (5, .ref pa), (4, .ref fa), (3, .int (nI n)), (2, .ref sm), (1, .ref r), (0, .ref b)]) hx hb dL_law_337 hl (by decide) rfl (fun ls hl => ?_)
      refine lv_iload hx hb dL_law_339 (lv_at hl 3 rfl) ?_
      refine lv_iload hx hb dL_law_341 (lv_at hl 1 rfl) ?_
      refine lv_sipush (v := (-9999)) hx hb dL_law_343 (by decide) ?_
      refine lv_icmp_eq (tgt := 371) hx hb dL_law_346 (by decide) (fun c => absurd c h1) (fun _ => ?_)
      refine lv_iload hx hb dL_law_349 (lv_at hl 1 rfl) ?_
      refine lv_iload hx hb dL_law_351 (lv_at hl 5 rfl) ?_
      refine lv_aload_n hx hb dL_law_353 rfl (lv_at hl 18 rfl) ?_
      refine va_get (D := D) (ci := 3) (v := .ref tt) (C := RX3) (T := TX3) (N := 5) hx hb hts hiX3 hown hX.2.1 hP (qs + 5) (show _ = some (sm, oSv 0 (nI len) 0 g9 (.ref tt)) from pl_at hSM) rfl 4 (by decide) (hts (.fieldLink RL 45 "SledgeRaceLaw$Sim" "teams" "[LSledgeRaceLaw$Team;") (by decide +kernel)) (fun _ h9 => h9) rfl dL_law_354 ?_
      refine lv_iload hx hb dL_law_357 (lv_at hl 6 rfl) ?_
      refine pl_lld hx hb hX hP (qt + 5) (show _ = some (tt, aQ cL n f) from pl_at hTT) ht (by omega) hta dL_law_359 ?_
      refine va_get (D := D) (ci := 4) (v := .int (F9 0)) (C := RX4) (T := TX4) (N := 17) hx hb hts hiX4 hown hX.2.1 hP (q1 + 5) (show _ = some (ta, oYv F9 (.ref ra) ca (.ref ha) lf) from pl_at hq1) rfl 0 (by decide) (hts (.fieldLink RL 50 "SledgeRaceLaw$Team" "length" "I") (by decide +kernel)) (fun _ h9 => h9) rfl dL_law_360 ?_
      refine sp_top (show F9 0 = nI ln from hF90) ?_
      refine lv_isub hx hb dL_law_363 ?_
      refine lx_icmp_ge (tgt := 371) hx hb dL_law_364 (by decide) (fun _ => ?_) (fun c => absurd c h2)
      refine lv_iconst (v := nI 0) hx hb dL_law_371 (by decide) ?_
      refine lv_iadd hx hb dL_law_372 ?_
      refine sp_top (show (nI ub) + (nI 0) = nI (ub + 0) from nI_add ub 0) ?_
      refine lv_istore (lv' := [(19, .int (nI (ub + 0))), (18, .int (nI (uu + 1))), (21, .int x), (20, .int (nI k)), (17, .int (nI nr9)), (16, .int ((T (t + 2)).1 10)), (15, .int (nI t)), (14, .ref za), (13, .int s13), (12, .int a12), (11, .int e11), (9, .ref wa), (8, .int (nI (tk + 1))), (7, .int (nI bk)), (6, .ref ea), (5, .ref pa), (4, .ref fa), (3, .int (nI n)), (2, .ref sm), (1, .ref r), (0, .ref b)]) hx hb dL_law_373 hl (by decide) rfl (fun ls hl => ?_)
      refine lv_iinc (v := nI (k + 1)) (lv' := [(20, .int (nI (k + 1))), (19, .int (nI (ub + 0))), (18, .int (nI (uu + 1))), (21, .int x), (17, .int (nI nr9)), (16, .int ((T (t + 2)).1 10)), (15, .int (nI t)), (14, .ref za), (13, .int s13), (12, .int a12), (11, .int e11), (9, .ref wa), (8, .int (nI (tk + 1))), (7, .int (nI bk)), (6, .ref ea), (5, .ref pa), (4, .ref fa), (3, .int (nI n)), (2, .ref sm), (1, .ref r), (0, .ref b)]) hx hb dL_law_375 hl (k := 3) rfl ((nI_1 k)) (by decide) rfl (fun ls hl => ?_)
      refine lv_goto (tgt := 279) hx hb dL_law_378 (by decide) ?_
      exact ih (k + 1) (by omega) (by omega) _ _ _ _ H locs ls (show uu + 1 = cnt (fun j => decide (cSide (T (t + 2)).1 ((T (t + 2)).2.1 j) = 0)) (k + 1) by have h9 := cnt_t (q := (fun j => decide (cSide (T (t + 2)).1 ((T (t + 2)).2.1 j) = 0))) (decide_eq_true hsd); omega) (show ub + 0 = cnt (fun j => decide (cSide (T (t + 2)).1 ((T (t + 2)).2.1 j) = 1)) (k + 1) by have h9 := cnt_f (q := (fun j => decide (cSide (T (t + 2)).1 ((T (t + 2)).2.1 j) = 1))) (decide_eq_false (by rw [hsd]; decide)); omega) (by omega) (by omega) hP hD hS (lv_sub hl [0, 1, 2, 4, 5, 6, 7, 8, 9, 10, 11, 12, 13, 14, 15, 16, 17, 18, 19, 20] rfl)
