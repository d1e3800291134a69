abbrev rmX2_isOutside : Room := { frames := 0, cells := 0, slots := 0, locals := 0 }
set_option maxHeartbeats 4000000 in
set_option maxRecDepth 100000 in
/-- outside of two bounds -/
theorem mX2_isOutside (l : Launch) (D : va_G) (cI cT : ClassId) (x a b : Int32) : MetR l D cI cT yX2_isOutside wsX2_isOutside rmX2_isOutside [.int x, .int a, .int b] [] (bI (!isIn x a b)) := by
  refine Met.ofW (cc := cX2_isOutside) (maxL := 3) (ret := (some .boolean)) (by decide) rfl ?_
  intro p e s m args below meth c s₁ B hml hv
  obtain ⟨hargs, hP, hK⟩ := hv
  have hx := B.exec
  have hb := B.bytes
  have hr := B.returns
  have hts := atoms_spec (ws := wsX2_isOutside) B.pre
  have hown : s.vm.findClass RX2 = some m.cls := findClass_of_methodNamed B.named
  have hlocks := B.notSynchronized
  have he : entryFrame m args 3 = F0 m 0 ((lg_sl [.int x, .int a, .int b] ++ List.replicate (3 - (lg_sl [.int x, .int a, .int b]).length) Slot.unset).toArray) [] := by rw [hargs]; exact lg_entry_eq m _ _
  rw [he]
  change W p l e rmX2_isOutside s m args below meth c s.heap [] 0 0 (MQ below (QcRead (bI (!isIn x a b))) args s 0 0 (fun _ => False)) _
  obtain ⟨Q, hQ⟩ : ∃ Q, Q = MQ below (QcRead (bI (!isIn x a b))) args s 0 0 (fun _ => False) := ⟨_, rfl⟩
  rw [← hQ]
  have hl := lv_entry [.int x, .int a, .int b] (n := 3) (Nat.le_of_ble_eq_true rfl)
  generalize (lg_sl [.int x, .int a, .int b] ++ List.replicate (3 - (lg_sl [.int x, .int a, .int b]).length) Slot.unset).toArray = ls at hl ⊢
  have hl : lv_has ls 3 [(0, .int x), (1, .int a), (2, .int b)] := hl
  refine lv_iload_n hx hb dX2_isOutside_0 rfl (lv_at hl 0 rfl) ?_
  refine lv_iload_n hx hb dX2_isOutside_1 rfl (lv_at hl 1 rfl) ?_
  refine lv_icmp_lt (tgt := 10) hx hb dX2_isOutside_2 (by decide) (fun c2 => ?_) (fun c2 => ?_)
  · skip
    refine lv_iconst (v := 1) hx hb dX2_isOutside_10 (by decide) ?_
    refine lv_goto (tgt := 15) hx hb dX2_isOutside_11 (by decide) ?_
    refine sp_top (show 1 = bI (!isIn x a b) from by simp [bI, isIn, c2]) ?_
    subst hQ
    exact W.zret hx hb hr (bI_nar _) (fun t ht _ => ⟨rfl, ht⟩) (fun _ h => nomatch h) dX2_isOutside_15
  · skip
    refine lv_iload_n hx hb dX2_isOutside_5 rfl (lv_at hl 0 rfl) ?_
    refine lv_iload_n hx hb dX2_isOutside_6 rfl (lv_at hl 2 rfl) ?_
    refine lx_icmp_le (tgt := 14) hx hb dX2_isOutside_7 (by decide) (fun c7 => ?_) (fun c7 => ?_)
    · skip
      refine lv_iconst (v := 0) hx hb dX2_isOutside_14 (by decide) ?_
      refine sp_top (show 0 = bI (!isIn x a b) from by simp [bI, isIn, c2, c7]) ?_
      subst hQ
      exact W.zret hx hb hr (bI_nar _) (fun t ht _ => ⟨rfl, ht⟩) (fun _ h => nomatch h) dX2_isOutside_15
    · skip
      refine lv_iconst (v := 1) hx hb dX2_isOutside_10 (by decide) ?_
      refine lv_goto (tgt := 15) hx hb dX2_isOutside_11 (by decide) ?_
      refine sp_top (show 1 = bI (!isIn x a b) from by simp [bI, isIn, c2, c7]) ?_
      subst hQ
      exact W.zret hx hb hr (bI_nar _) (fun t ht _ => ⟨rfl, ht⟩) (fun _ h => nomatch h) dX2_isOutside_15

abbrev rmX2_teamsAtEnd : Room := { frames := 1, cells := 0, slots := 0, locals := 20 }
set_option maxHeartbeats 4000000 in
set_option maxRecDepth 100000 in
/-- how many have come to the end -/
theorem mX2_teamsAtEnd (l : Launch) (D : va_G) (cI cT : ClassId) (r tr k1 k2 k3 ts : Nat) (ad : Nat → Nat → Nat) (n : Nat) (hn : n ≤ 6) (tick : Int32) (KF S U V : Nat → Int32) (T : Nat → TV) : MetR l D cI cT yX2_teamsAtEnd wsX2_teamsAtEnd rmX2_teamsAtEnd [.ref r] ([(r, oR tr ts (ad 0 0) (ad 1 0) (nI n) tick), (tr, oK KF k1 k2 k3), (k1, aI cI 12 S), (k2, aI cI 12 U), (k3, aI cI 12 V), (ts, aQ cT 6 (tq ad n))] ++ blks cI ad T (n + 2)) (nI (cEnded T n)) := by
  refine Met.ofW (cc := cX2_teamsAtEnd) (maxL := 6) (ret := (some .int)) (by decide) rfl ?_
  intro p e s m args below meth c s₁ B hml hv
  obtain ⟨hargs, hP, hK⟩ := hv
  have hx := B.exec
  have hb := B.bytes
  have hr := B.returns
  have hts := atoms_spec (ws := wsX2_teamsAtEnd) B.pre
  have hown : s.vm.findClass RX2 = some m.cls := findClass_of_methodNamed B.named
  have hlocks := B.notSynchronized
  have hiX0 : ∀ w ∈ u_ws RX0 TX0 20, w ∈ wsX2_teamsAtEnd := by decide +kernel
  have hiX2 : ∀ w ∈ u_ws RX2 TX2 6, w ∈ wsX2_teamsAtEnd := by decide +kernel
  have he : entryFrame m args 6 = F0 m 0 ((lg_sl [.ref r] ++ List.replicate (6 - (lg_sl [.ref r]).length) Slot.unset).toArray) [] := by rw [hargs]; exact lg_entry_eq m _ _
  rw [he]
  change W p l e rmX2_teamsAtEnd s m args below meth c s.heap [] 0 0 (MQ below (QcRead (nI (cEnded T n))) args s 0 0 (fun _ => False)) _
  obtain ⟨Q, hQ⟩ : ∃ Q, Q = MQ below (QcRead (nI (cEnded T n))) args s 0 0 (fun _ => False) := ⟨_, rfl⟩
  rw [← hQ]
  have hl := lv_entry [.ref r] (n := 6) (Nat.le_of_ble_eq_true rfl)
  generalize (lg_sl [.ref r] ++ List.replicate (6 - (lg_sl [.ref r]).length) Slot.unset).toArray = ls at hl ⊢
  have hl : lv_has ls 6 [(0, .ref r)] := hl
  refine lv_iconst (v := nI 0) hx hb dX2_teamsAtEnd_0 (by decide) ?_
  refine lv_istore_n (lv' := [(1, .int (nI 0)), (0, .ref r)]) hx hb dX2_teamsAtEnd_1 rfl hl (by decide) rfl (fun ls hl => ?_)
  refine lv_aload_n hx hb dX2_teamsAtEnd_2 rfl (lv_at hl 1 rfl) ?_
  refine va_get (D := D) (ci := 2) (v := .ref ts) (C := RX2) (T := TX2) (N := 6) hx hb hts hiX2 hown hK.1 hP 0 rfl rfl 1 (by decide) (hts (.fieldLink RX2 18 "SledgeRace" "teams" "[LSledgeRace$Team;") (by decide +kernel)) (fun _ h9 => h9) rfl dX2_teamsAtEnd_3 ?_
  refine lv_astore_n (lv' := [(2, .ref ts), (1, .int (nI 0)), (0, .ref r)]) hx hb dX2_teamsAtEnd_6 rfl hl (by decide) rfl (fun ls hl => ?_)
  refine lv_aload_n hx hb dX2_teamsAtEnd_7 rfl (lv_at hl 0 rfl) ?_
  refine va_alen hx hb hK.1 hP 5 1 rfl rfl (v := nI 6) rfl dX2_teamsAtEnd_8 ?_
  refine lv_istore_n (lv' := [(3, .int (nI 6)), (2, .ref ts), (1, .int (nI 0)), (0, .ref r)]) hx hb dX2_teamsAtEnd_9 rfl hl (by decide) rfl (fun ls hl => ?_)
  refine lv_iconst (v := nI 0) hx hb dX2_teamsAtEnd_10 (by decide) ?_
  refine lv_istore (lv' := [(4, .int (nI 0)), (3, .int (nI 6)), (2, .ref ts), (1, .int (nI 0)), (0, .ref r)]) hx hb dX2_teamsAtEnd_11 hl (by decide) rfl (fun ls hl => ?_)
  have loop13 : ∀ (fu : Nat) (i : Nat) (k : Nat), (6 - i) < fu → (i ≤ 6) → (k = cEnded T (min i n)) → ∀ (ls : Array Slot), lv_has ls 6 [(4, .int (nI i)), (3, .int (nI 6)), (2, .ref ts), (1, .int (nI k)), (0, .ref r)] → W p l e rmX2_teamsAtEnd s m args below meth c s.heap [] 0 0 Q (F0 m 13 ls []) := by
    intro fu
    induction fu with
    | zero => intro i k hfu; exact absurd hfu (Nat.not_lt_zero _)
    | succ fu ih13 =>
      intro i k hfu13 hi ek
      intro ls hl
      refine lv_iload hx hb dX2_teamsAtEnd_13 (lv_at hl 0 rfl) ?_
      refine lv_iload_n hx hb dX2_teamsAtEnd_15 rfl (lv_at hl 1 rfl) ?_
      refine sp_ge (by omega) (by omega) (tgt := 47) hx hb dX2_teamsAtEnd_16 (by decide) (fun c16 => ?_) (fun c16 => ?_)
      · skip
        refine lv_iload_n hx hb dX2_teamsAtEnd_47 rfl (lv_at hl 3 rfl) ?_
        refine sp_top (show nI k = nI (cEnded T n) from by rw [ek, show min i n = n by omega]) ?_
        subst hQ
        exact W.iret hx hb hr (fun t ht _ => ⟨rfl, ht⟩) (fun _ h => nomatch h) dX2_teamsAtEnd_48
      · skip
        refine lv_aload_n hx hb dX2_teamsAtEnd_19 rfl (lv_at hl 2 rfl) ?_
        refine lv_iload hx hb dX2_teamsAtEnd_20 (lv_at hl 0 rfl) ?_
        refine sp_aald hx hb hK hP 5 rfl (by omega) (by decide) dX2_teamsAtEnd_22 (fun cin => ?_) (fun cin => ?_)
        · skip
          refine lv_astore (lv' := [(5, .ref (ad (i + 2) 0)), (4, .int (nI i)), (3, .int (nI 6)), (2, .ref ts), (1, .int (nI k)), (0, .ref r)]) hx hb dX2_teamsAtEnd_23 hl (by decide) rfl (fun ls hl => ?_)
          refine lv_aload hx hb dX2_teamsAtEnd_25 (lv_at hl 0 rfl) ?_
          refine lv_ifnull hx hb dX2_teamsAtEnd_27 ?_
          refine lv_aload hx hb dX2_teamsAtEnd_30 (lv_at hl 0 rfl) ?_
          refine sp_rV (rest := []) (As := []) ⟨hx, hb, hml, hown, hts⟩ (mX0_isAtEnd l D cI cT (ad (i + 2) 0) (ad (i + 2) 1) (ad (i + 2) 2) (ad (i + 2) 3) ((T (i + 2)).1) ) (cwV 0 hts gX2_teamsAtEnd_X0_isAtEnd rfl rfl rfl (by decide +kernel) ⟨Nat.le_of_ble_eq_true rfl, Nat.le_of_ble_eq_true rfl⟩) hK ((blk_P hP (show i + 2 < n + 2 by omega)).sub (ws' := [(ad (i + 2) 0, oT ((T (i + 2)).1) (ad (i + 2) 1) (ad (i + 2) 2) (ad (i + 2) 3))]) [0] rfl) (ci := 0) rfl rfl rfl rfl hl.1 rfl (Nat.le_of_ble_eq_true rfl) dX2_teamsAtEnd_32 ⟨Nat.le_of_ble_eq_true rfl, Nat.le_of_ble_eq_true rfl⟩ ?_
          refine sp_if_eq (tgt := 41) hx hb dX2_teamsAtEnd_35 (by decide) (fun c35 => ?_) (fun c35 => ?_)
          · skip
            refine lv_iinc (v := nI (i + 1)) (lv' := [(4, .int (nI (i + 1))), (5, .ref (ad (i + 2) 0)), (3, .int (nI 6)), (2, .ref ts), (1, .int (nI k)), (0, .ref r)]) hx hb dX2_teamsAtEnd_41 hl (k := 1) rfl ((nI_1 i)) (by decide) rfl (fun ls hl => ?_)
            refine lv_goto (tgt := 13) hx hb dX2_teamsAtEnd_44 (by decide) ?_
            exact ih13 (i + 1) k (by omega) (by omega) (by rw [ek, show min i n = i by omega, show min (i + 1) n = i + 1 by omega]; simp [cEnded, cnt, c35]) ls (lv_sub hl [0, 2, 3, 4, 5] rfl)
          · skip
            refine lv_iinc (v := nI (k + 1)) (lv' := [(1, .int (nI (k + 1))), (5, .ref (ad (i + 2) 0)), (4, .int (nI i)), (3, .int (nI 6)), (2, .ref ts), (0, .ref r)]) hx hb dX2_teamsAtEnd_38 hl (k := 4) rfl ((nI_1 k)) (by decide) rfl (fun ls hl => ?_)
            refine lv_iinc (v := nI (i + 1)) (lv' := [(4, .int (nI (i + 1))), (1, .int (nI (k + 1))), (5, .ref (ad (i + 2) 0)), (3, .int (nI 6)), (2, .ref ts), (0, .ref r)]) hx hb dX2_teamsAtEnd_41 hl (k := 2) rfl ((nI_1 i)) (by decide) rfl (fun ls hl => ?_)
            refine lv_goto (tgt := 13) hx hb dX2_teamsAtEnd_44 (by decide) ?_
            exact ih13 (i + 1) (k + 1) (by omega) (by omega) (by rw [ek, show min i n = i by omega, show min (i + 1) n = i + 1 by omega]; simp [cEnded, cnt, c35]) ls (lv_sub hl [0, 3, 4, 1, 5] rfl)
        · skip
          refine lv_astoreN (lv' := [(5, .null), (4, .int (nI i)), (3, .int (nI 6)), (2, .ref ts), (1, .int (nI k)), (0, .ref r)]) hx hb dX2_teamsAtEnd_23 hl (by decide) rfl (fun ls hl => ?_)
          refine lv_aloadN hx hb dX2_teamsAtEnd_25 (lv_at hl 0 rfl) ?_
          refine lv_ifnullN (tgt := 41) hx hb dX2_teamsAtEnd_27 (by decide) ?_
          refine lv_iinc (v := nI (i + 1)) (lv' := [(4, .int (nI (i + 1))), (5, .null), (3, .int (nI 6)), (2, .ref ts), (1, .int (nI k)), (0, .ref r)]) hx hb dX2_teamsAtEnd_41 hl (k := 1) rfl ((nI_1 i)) (by decide) rfl (fun ls hl => ?_)
          refine lv_goto (tgt := 13) hx hb dX2_teamsAtEnd_44 (by decide) ?_
          exact ih13 (i + 1) k (by omega) (by omega) (by rw [ek, show min i n = n by omega, show min (i + 1) n = n by omega]) ls (lv_sub hl [0, 2, 3, 4, 5] rfl)
  exact loop13 _ 0 0 (Nat.lt_succ_self _) (Nat.zero_le _) (by rw [Nat.zero_min]; rfl) ls (lv_sub hl [0, 1, 2, 3, 4] rfl)

abbrev rmX2_ropesBroken : Room := { frames := 0, cells := 0, slots := 0, locals := 0 }
set_option maxHeartbeats 4000000 in
set_option maxRecDepth 100000 in
/-- how many ropes have broken -/
theorem mX2_ropesBroken (l : Launch) (D : va_G) (cI cT : ClassId) (r tr k1 k2 k3 ts : Nat) (ad : Nat → Nat → Nat) (n : Nat) (hn : n ≤ 6) (tick : Int32) (KF S U V : Nat → Int32) (T : Nat → TV) : MetR l D cI cT yX2_ropesBroken wsX2_ropesBroken rmX2_ropesBroken [.ref r] ([(r, oR tr ts (ad 0 0) (ad 1 0) (nI n) tick), (tr, oK KF k1 k2 k3), (k1, aI cI 12 S), (k2, aI cI 12 U), (k3, aI cI 12 V), (ts, aQ cT 6 (tq ad n))] ++ blks cI ad T (n + 2)) (cBroke T n) := by
  refine Met.ofW (cc := cX2_ropesBroken) (maxL := 6) (ret := (some .int)) (by decide) rfl ?_
  intro p e s m args below meth c s₁ B hml hv
  obtain ⟨hargs, hP, hK⟩ := hv
  have hx := B.exec
  have hb := B.bytes
  have hr := B.returns
  have hts := atoms_spec (ws := wsX2_ropesBroken) B.pre
  have hown : s.vm.findClass RX2 = some m.cls := findClass_of_methodNamed B.named
  have hlocks := B.notSynchronized
  have hiX0 : ∀ w ∈ u_ws RX0 TX0 20, w ∈ wsX2_ropesBroken := by decide +kernel
  have hiX2 : ∀ w ∈ u_ws RX2 TX2 6, w ∈ wsX2_ropesBroken := by decide +kernel
  have he : entryFrame m args 6 = F0 m 0 ((lg_sl [.ref r] ++ List.replicate (6 - (lg_sl [.ref r]).length) Slot.unset).toArray) [] := by rw [hargs]; exact lg_entry_eq m _ _
  rw [he]
  change W p l e rmX2_ropesBroken s m args below meth c s.heap [] 0 0 (MQ below (QcRead (cBroke T n)) args s 0 0 (fun _ => False)) _
  obtain ⟨Q, hQ⟩ : ∃ Q, Q = MQ below (QcRead (cBroke T n)) args s 0 0 (fun _ => False) := ⟨_, rfl⟩
  rw [← hQ]
  have hl := lv_entry [.ref r] (n := 6) (Nat.le_of_ble_eq_true rfl)
  generalize (lg_sl [.ref r] ++ List.replicate (6 - (lg_sl [.ref r]).length) Slot.unset).toArray = ls at hl ⊢
  have hl : lv_has ls 6 [(0, .ref r)] := hl
  refine lv_iconst (v := 0) hx hb dX2_ropesBroken_0 (by decide) ?_
  refine lv_istore_n (lv' := [(1, .int 0), (0, .ref r)]) hx hb dX2_ropesBroken_1 rfl hl (by decide) rfl (fun ls hl => ?_)
  refine lv_aload_n hx hb dX2_ropesBroken_2 rfl (lv_at hl 1 rfl) ?_
  refine va_get (D := D) (ci := 2) (v := .ref ts) (C := RX2) (T := TX2) (N := 6) hx hb hts hiX2 hown hK.1 hP 0 rfl rfl 1 (by decide) (hts (.fieldLink RX2 18 "SledgeRace" "teams" "[LSledgeRace$Team;") (by decide +kernel)) (fun _ h9 => h9) rfl dX2_ropesBroken_3 ?_
  refine lv_astore_n (lv' := [(2, .ref ts), (1, .int 0), (0, .ref r)]) hx hb dX2_ropesBroken_6 rfl hl (by decide) rfl (fun ls hl => ?_)
  refine lv_aload_n hx hb dX2_ropesBroken_7 rfl (lv_at hl 0 rfl) ?_
  refine va_alen hx hb hK.1 hP 5 1 rfl rfl (v := nI 6) rfl dX2_ropesBroken_8 ?_
  refine lv_istore_n (lv' := [(3, .int (nI 6)), (2, .ref ts), (1, .int 0), (0, .ref r)]) hx hb dX2_ropesBroken_9 rfl hl (by decide) rfl (fun ls hl => ?_)
  refine lv_iconst (v := nI 0) hx hb dX2_ropesBroken_10 (by decide) ?_
  refine lv_istore (lv' := [(4, .int (nI 0)), (3, .int (nI 6)), (2, .ref ts), (1, .int 0), (0, .ref r)]) hx hb dX2_ropesBroken_11 hl (by decide) rfl (fun ls hl => ?_)
  have loop13 : ∀ (fu : Nat) (i : Nat) (k : Int32), (6 - i) < fu → (i ≤ 6) → (k = cBroke T (min i n)) → ∀ (ls : Array Slot), lv_has ls 6 [(4, .int (nI i)), (3, .int (nI 6)), (2, .ref ts), (1, .int k), (0, .ref r)] → W p l e rmX2_ropesBroken s m args below meth c s.heap [] 0 0 Q (F0 m 13 ls []) := by
    intro fu
    induction fu with
    | zero => intro i k hfu; exact absurd hfu (Nat.not_lt_zero _)
    | succ fu ih13 =>
      intro i k hfu13 hi ek
      intro ls hl
      refine lv_iload hx hb dX2_ropesBroken_13 (lv_at hl 0 rfl) ?_
      refine lv_iload_n hx hb dX2_ropesBroken_15 rfl (lv_at hl 1 rfl) ?_
      refine sp_ge (by omega) (by omega) (tgt := 44) hx hb dX2_ropesBroken_16 (by decide) (fun c16 => ?_) (fun c16 => ?_)
      · skip
        refine lv_iload_n hx hb dX2_ropesBroken_44 rfl (lv_at hl 3 rfl) ?_
        refine sp_top (show k = cBroke T n from by rw [ek, show min i n = n by omega]) ?_
        subst hQ
        exact W.iret hx hb hr (fun t ht _ => ⟨rfl, ht⟩) (fun _ h => nomatch h) dX2_ropesBroken_45
      · skip
        refine lv_aload_n hx hb dX2_ropesBroken_19 rfl (lv_at hl 2 rfl) ?_
        refine lv_iload hx hb dX2_ropesBroken_20 (lv_at hl 0 rfl) ?_
        refine sp_aald hx hb hK hP 5 rfl (by omega) (by decide) dX2_ropesBroken_22 (fun cin => ?_) (fun cin => ?_)
        · skip
          refine lv_astore (lv' := [(5, .ref (ad (i + 2) 0)), (4, .int (nI i)), (3, .int (nI 6)), (2, .ref ts), (1, .int k), (0, .ref r)]) hx hb dX2_ropesBroken_23 hl (by decide) rfl (fun ls hl => ?_)
          refine lv_aload hx hb dX2_ropesBroken_25 (lv_at hl 0 rfl) ?_
          refine lv_ifnull hx hb dX2_ropesBroken_27 ?_
          refine lv_iload_n hx hb dX2_ropesBroken_30 rfl (lv_at hl 4 rfl) ?_
          refine lv_aload hx hb dX2_ropesBroken_31 (lv_at hl 0 rfl) ?_
          refine va_getN (D := D) (ci := 0) (v := .int (((T (i + 2)).1) 14)) (C := RX0) (T := TX0) (N := 20) hx hb hts hiX0 hown hK.1 (blk_P hP (show i + 2 < n + 2 by omega)) 0 rfl rfl 14 (by decide) (hK.n (w := .fieldLinkNest RX2 219 "SledgeRace$Team" "breaks" "I" "SledgeRace") (by decide +kernel)) (fun _ h9 => h9) rfl dX2_ropesBroken_33 ?_
          refine lv_iadd hx hb dX2_ropesBroken_36 ?_
          refine lv_istore_n (lv' := [(1, .int (k + (((T (i + 2)).1) 14))), (5, .ref (ad (i + 2) 0)), (4, .int (nI i)), (3, .int (nI 6)), (2, .ref ts), (0, .ref r)]) hx hb dX2_ropesBroken_37 rfl hl (by decide) rfl (fun ls hl => ?_)
          refine lv_iinc (v := nI (i + 1)) (lv' := [(4, .int (nI (i + 1))), (1, .int (k + (((T (i + 2)).1) 14))), (5, .ref (ad (i + 2) 0)), (3, .int (nI 6)), (2, .ref ts), (0, .ref r)]) hx hb dX2_ropesBroken_38 hl (k := 2) rfl ((nI_1 i)) (by decide) rfl (fun ls hl => ?_)
          refine lv_goto (tgt := 13) hx hb dX2_ropesBroken_41 (by decide) ?_
          exact ih13 (i + 1) (k + (((T (i + 2)).1) 14)) (by omega) (by omega) (by rw [ek, show min i n = i by omega, show min (i + 1) n = i + 1 by omega]; rfl) ls (lv_sub hl [0, 3, 4, 1, 5] rfl)
        · skip
          refine lv_astoreN (lv' := [(5, .null), (4, .int (nI i)), (3, .int (nI 6)), (2, .ref ts), (1, .int k), (0, .ref r)]) hx hb dX2_ropesBroken_23 hl (by decide) rfl (fun ls hl => ?_)
          refine lv_aloadN hx hb dX2_ropesBroken_25 (lv_at hl 0 rfl) ?_
          refine lv_ifnullN (tgt := 38) hx hb dX2_ropesBroken_27 (by decide) ?_
          refine lv_iinc (v := nI (i + 1)) (lv' := [(4, .int (nI (i + 1))), (5, .null), (3, .int (nI 6)), (2, .ref ts), (1, .int k), (0, .ref r)]) hx hb dX2_ropesBroken_38 hl (k := 1) rfl ((nI_1 i)) (by decide) rfl (fun ls hl => ?_)
          refine lv_goto (tgt := 13) hx hb dX2_ropesBroken_41 (by decide) ?_
          exact ih13 (i + 1) k (by omega) (by omega) (by rw [ek, show min i n = n by omega, show min (i + 1) n = n by omega]) ls (lv_sub hl [0, 2, 3, 4, 5] rfl)
  exact loop13 _ 0 0 (Nat.lt_succ_self _) (Nat.zero_le _) (by rw [Nat.zero_min]; rfl) ls (lv_sub hl [0, 1, 2, 3, 4] rfl)

abbrev rmX2_countOf : Room := { frames := 2, cells := 0, slots := 0, locals := 45 }
set_option maxHeartbeats 4000000 in
set_option maxRecDepth 100000 in
/-- what is counted -/
theorem mX2_countOf (l : Launch) (D : va_G) (cI cT : ClassId) (r tr k1 k2 k3 ts : Nat) (ad : Nat → Nat → Nat) (n : Nat) (hn : n ≤ 6) (tick : Int32) (KF S U V : Nat → Int32) (T : Nat → TV) (w : Int32) : MetR l D cI cT yX2_countOf wsX2_countOf rmX2_countOf [.ref r, .int w] ([(r, oR tr ts (ad 0 0) (ad 1 0) (nI n) tick), (tr, oK KF k1 k2 k3), (k1, aI cI 12 S), (k2, aI cI 12 U), (k3, aI cI 12 V), (ts, aQ cT 6 (tq ad n))] ++ blks cI ad T (n + 2)) (cCount KF T n tick w) := by
  refine Met.ofW (cc := cX2_countOf) (maxL := 2) (ret := (some .int)) (by decide) rfl ?_
  intro p e s m args below meth c s₁ B hml hv
  obtain ⟨hargs, hP, hK⟩ := hv
  have hx := B.exec
  have hb := B.bytes
  have hr := B.returns
  have hts := atoms_spec (ws := wsX2_countOf) B.pre
  have hown : s.vm.findClass RX2 = some m.cls := findClass_of_methodNamed B.named
  have hlocks := B.notSynchronized
  have hiX1 : ∀ w ∈ u_ws RX1 TX1 5, w ∈ wsX2_countOf := by decide +kernel
  have hiX2 : ∀ w ∈ u_ws RX2 TX2 6, w ∈ wsX2_countOf := by decide +kernel
  have he : entryFrame m args 2 = F0 m 0 ((lg_sl [.ref r, .int w] ++ List.replicate (2 - (lg_sl [.ref r, .int w]).length) Slot.unset).toArray) [] := by rw [hargs]; exact lg_entry_eq m _ _
  rw [he]
  change W p l e rmX2_countOf s m args below meth c s.heap [] 0 0 (MQ below (QcRead (cCount KF T n tick w)) args s 0 0 (fun _ => False)) _
  obtain ⟨Q, hQ⟩ : ∃ Q, Q = MQ below (QcRead (cCount KF T n tick w)) args s 0 0 (fun _ => False) := ⟨_, rfl⟩
  rw [← hQ]
  have hl := lv_entry [.ref r, .int w] (n := 2) (Nat.le_of_ble_eq_true rfl)
  generalize (lg_sl [.ref r, .int w] ++ List.replicate (2 - (lg_sl [.ref r, .int w]).length) Slot.unset).toArray = ls at hl ⊢
  have hl : lv_has ls 2 [(0, .ref r), (1, .int w)] := hl
  refine lv_iload_n hx hb dX2_countOf_0 rfl (lv_at hl 1 rfl) ?_
  by_cases sw0 : w = 0
  · subst sw0
    refine lv_tableIn (tgt := 36) hx hb dX2_countOf_1 (by decide) (by decide) rfl (by decide) ?_
    refine lv_aload_n hx hb dX2_countOf_36 rfl (lv_at hl 0 rfl) ?_
    refine va_get (D := D) (ci := 2) (v := .int tick) (C := RX2) (T := TX2) (N := 6) hx hb hts hiX2 hown hK.1 hP 0 rfl rfl 5 (by decide) (hts (.fieldLink RX2 36 "SledgeRace" "tick" "I") (by decide +kernel)) (fun _ h9 => h9) rfl dX2_countOf_37 ?_
    subst hQ
    exact W.iret hx hb hr (fun t ht _ => ⟨rfl, ht⟩) (fun _ h => nomatch h) dX2_countOf_40
  by_cases sw1 : w = 1
  · subst sw1
    refine lv_tableIn (tgt := 41) hx hb dX2_countOf_1 (by decide) (by decide) rfl (by decide) ?_
    refine lv_aload_n hx hb dX2_countOf_41 rfl (lv_at hl 0 rfl) ?_
    refine va_get (D := D) (ci := 2) (v := .int (nI n)) (C := RX2) (T := TX2) (N := 6) hx hb hts hiX2 hown hK.1 hP 0 rfl rfl 4 (by decide) (hts (.fieldLink RX2 32 "SledgeRace" "teamCount" "I") (by decide +kernel)) (fun _ h9 => h9) rfl dX2_countOf_42 ?_
    subst hQ
    exact W.iret hx hb hr (fun t ht _ => ⟨rfl, ht⟩) (fun _ h => nomatch h) dX2_countOf_45
  by_cases sw2 : w = 2
  · subst sw2
    refine lv_tableIn (tgt := 46) hx hb dX2_countOf_1 (by decide) (by decide) rfl (by decide) ?_
    refine lv_aload_n hx hb dX2_countOf_46 rfl (lv_at hl 0 rfl) ?_
    refine va_get (D := D) (ci := 2) (v := .ref tr) (C := RX2) (T := TX2) (N := 6) hx hb hts hiX2 hown hK.1 hP 0 rfl rfl 0 (by decide) (hts (.fieldLink RX2 10 "SledgeRace" "track" "LSledgeRace$Track;") (by decide +kernel)) (fun _ h9 => h9) rfl dX2_countOf_47 ?_
    refine va_getN (D := D) (ci := 1) (v := .int (KF 4)) (C := RX1) (T := TX1) (N := 5) hx hb hts hiX1 hown hK.1 hP 1 rfl rfl 4 (by decide) (hK.n (w := .fieldLinkNest RX2 53 "SledgeRace$Track" "length" "I" "SledgeRace") (by decide +kernel)) (fun _ h9 => h9) rfl dX2_countOf_50 ?_
    subst hQ
    exact W.iret hx hb hr (fun t ht _ => ⟨rfl, ht⟩) (fun _ h => nomatch h) dX2_countOf_53
  by_cases sw3 : w = 3
  · subst sw3
    refine lv_tableIn (tgt := 54) hx hb dX2_countOf_1 (by decide) (by decide) rfl (by decide) ?_
    refine lv_aload_n hx hb dX2_countOf_54 rfl (lv_at hl 0 rfl) ?_
    refine va_get (D := D) (ci := 2) (v := .ref tr) (C := RX2) (T := TX2) (N := 6) hx hb hts hiX2 hown hK.1 hP 0 rfl rfl 0 (by decide) (hts (.fieldLink RX2 10 "SledgeRace" "track" "LSledgeRace$Track;") (by decide +kernel)) (fun _ h9 => h9) rfl dX2_countOf_55 ?_
    refine va_getN (D := D) (ci := 1) (v := .int (KF 3)) (C := RX1) (T := TX1) (N := 5) hx hb hts hiX1 hown hK.1 hP 1 rfl rfl 3 (by decide) (hK.n (w := .fieldLinkNest RX2 66 "SledgeRace$Track" "stretches" "I" "SledgeRace") (by decide +kernel)) (fun _ h9 => h9) rfl dX2_countOf_58 ?_
    subst hQ
    exact W.iret hx hb hr (fun t ht _ => ⟨rfl, ht⟩) (fun _ h => nomatch h) dX2_countOf_61
  by_cases sw4 : w = 4
  · subst sw4
    refine lv_tableIn (tgt := 62) hx hb dX2_countOf_1 (by decide) (by decide) rfl (by decide) ?_
    refine lv_aload_n hx hb dX2_countOf_62 rfl (lv_at hl 0 rfl) ?_
    refine sp_rV (rest := []) (As := []) ⟨hx, hb, hml, hown, hts⟩ (mX2_teamsAtEnd l D cI cT r tr k1 k2 k3 ts ad n hn tick KF S U V T ) (cwV 0 hts gX2_countOf_X2_teamsAtEnd rfl rfl rfl (by decide +kernel) ⟨Nat.le_of_ble_eq_true rfl, Nat.le_of_ble_eq_true rfl⟩) hK hP (ci := 2) rfl rfl rfl rfl hl.1 rfl (Nat.le_of_ble_eq_true rfl) dX2_countOf_63 ⟨Nat.le_of_ble_eq_true rfl, Nat.le_of_ble_eq_true rfl⟩ ?_
    subst hQ
    exact W.iret hx hb hr (fun t ht _ => ⟨rfl, ht⟩) (fun _ h => nomatch h) dX2_countOf_66
  refine lv_tableOut (tgt := 67) hx hb dX2_countOf_1 (sp_out4 sw0 sw1 sw2 sw3 sw4) (by decide) ?_
  refine lv_aload_n hx hb dX2_countOf_67 rfl (lv_at hl 0 rfl) ?_
  refine sp_rV (rest := []) (As := []) ⟨hx, hb, hml, hown, hts⟩ (mX2_ropesBroken l D cI cT r tr k1 k2 k3 ts ad n hn tick KF S U V T ) (cwV 0 hts gX2_countOf_X2_ropesBroken rfl rfl rfl (by decide +kernel) ⟨Nat.le_of_ble_eq_true rfl, Nat.le_of_ble_eq_true rfl⟩) hK hP (ci := 2) rfl rfl rfl rfl hl.1 rfl (Nat.le_of_ble_eq_true rfl) dX2_countOf_68 ⟨Nat.le_of_ble_eq_true rfl, Nat.le_of_ble_eq_true rfl⟩ ?_
  refine sp_top (show cBroke T n = cCount KF T n tick w from by simp only [cCount, if_neg sw0, if_neg sw1, if_neg sw2, if_neg sw3, if_neg sw4]) ?_
  subst hQ
  exact W.iret hx hb hr (fun t ht _ => ⟨rfl, ht⟩) (fun _ h => nomatch h) dX2_countOf_71

abbrev rmX2_rankOf : Room := { frames := 2, cells := 0, slots := 0, locals := 41 }
set_option maxHeartbeats 4000000 in
set_option maxRecDepth 100000 in
/-- the rank -/
theorem mX2_rankOf (l : Launch) (D : va_G) (cI cT : ClassId) (r tr k1 k2 k3 ts : Nat) (ad : Nat → Nat → Nat) (n : Nat) (hn : n ≤ 6) (tick : Int32) (KF S U V : Nat → Int32) (T : Nat → TV) (b : Nat) (hb9 : b < n + 2) : MetR l D cI cT yX2_rankOf wsX2_rankOf rmX2_rankOf [.ref r, .ref (ad b 0)] ([(r, oR tr ts (ad 0 0) (ad 1 0) (nI n) tick), (tr, oK KF k1 k2 k3), (k1, aI cI 12 S), (k2, aI cI 12 U), (k3, aI cI 12 V), (ts, aQ cT 6 (tq ad n))] ++ blks cI ad T (n + 2)) (nI (cRankOf T (T b).1 n)) := by
  refine Met.ofW (cc := cX2_rankOf) (maxL := 7) (ret := (some .int)) (by decide) rfl ?_
  intro p e s m args below meth c s₁ B hml hv
  obtain ⟨hargs, hP, hK⟩ := hv
  have hx := B.exec
  have hb := B.bytes
  have hr := B.returns
  have hts := atoms_spec (ws := wsX2_rankOf) B.pre
  have hown : s.vm.findClass RX2 = some m.cls := findClass_of_methodNamed B.named
  have hlocks := B.notSynchronized
  have hiX2 : ∀ w ∈ u_ws RX2 TX2 6, w ∈ wsX2_rankOf := by decide +kernel
  have he : entryFrame m args 7 = F0 m 0 ((lg_sl [.ref r, .ref (ad b 0)] ++ List.replicate (7 - (lg_sl [.ref r, .ref (ad b 0)]).length) Slot.unset).toArray) [] := by rw [hargs]; exact lg_entry_eq m _ _
  rw [he]
  change W p l e rmX2_rankOf s m args below meth c s.heap [] 0 0 (MQ below (QcRead (nI (cRankOf T (T b).1 n))) args s 0 0 (fun _ => False)) _
  obtain ⟨Q, hQ⟩ : ∃ Q, Q = MQ below (QcRead (nI (cRankOf T (T b).1 n))) args s 0 0 (fun _ => False) := ⟨_, rfl⟩
  rw [← hQ]
  have hl := lv_entry [.ref r, .ref (ad b 0)] (n := 7) (Nat.le_of_ble_eq_true rfl)
  generalize (lg_sl [.ref r, .ref (ad b 0)] ++ List.replicate (7 - (lg_sl [.ref r, .ref (ad b 0)]).length) Slot.unset).toArray = ls at hl ⊢
  have hl : lv_has ls 7 [(0, .ref r), (1, .ref (ad b 0))] := hl
  refine lv_iconst (v := nI 0) hx hb dX2_rankOf_0 (by decide) ?_
  refine lv_istore_n (lv' := [(2, .int (nI 0)), (0, .ref r), (1, .ref (ad b 0))]) hx hb dX2_rankOf_1 rfl hl (by decide) rfl (fun ls hl => ?_)
  refine lv_aload_n hx hb dX2_rankOf_2 rfl (lv_at hl 1 rfl) ?_
  refine va_get (D := D) (ci := 2) (v := .ref ts) (C := RX2) (T := TX2) (N := 6) hx hb hts hiX2 hown hK.1 hP 0 rfl rfl 1 (by decide) (hts (.fieldLink RX2 18 "SledgeRace" "teams" "[LSledgeRace$Team;") (by decide +kernel)) (fun _ h9 => h9) rfl dX2_rankOf_3 ?_
  refine lv_astore_n (lv' := [(3, .ref ts), (2, .int (nI 0)), (0, .ref r), (1, .ref (ad b 0))]) hx hb dX2_rankOf_6 rfl hl (by decide) rfl (fun ls hl => ?_)
  refine lv_aload_n hx hb dX2_rankOf_7 rfl (lv_at hl 0 rfl) ?_
  refine va_alen hx hb hK.1 hP 5 1 rfl rfl (v := nI 6) rfl dX2_rankOf_8 ?_
  refine lv_istore (lv' := [(4, .int (nI 6)), (3, .ref ts), (2, .int (nI 0)), (0, .ref r), (1, .ref (ad b 0))]) hx hb dX2_rankOf_9 hl (by decide) rfl (fun ls hl => ?_)
  refine lv_iconst (v := nI 0) hx hb dX2_rankOf_11 (by decide) ?_
  refine lv_istore (lv' := [(5, .int (nI 0)), (4, .int (nI 6)), (3, .ref ts), (2, .int (nI 0)), (0, .ref r), (1, .ref (ad b 0))]) hx hb dX2_rankOf_12 hl (by decide) rfl (fun ls hl => ?_)
  have loop14 : ∀ (fu : Nat) (i : Nat) (k : Nat), (6 - i) < fu → (i ≤ 6) → (k = cRankOf T (T b).1 (min i n)) → ∀ (ls : Array Slot), lv_has ls 7 [(5, .int (nI i)), (4, .int (nI 6)), (3, .ref ts), (2, .int (nI k)), (0, .ref r), (1, .ref (ad b 0))] → W p l e rmX2_rankOf s m args below meth c s.heap [] 0 0 Q (F0 m 14 ls []) := by
    intro fu
    induction fu with
    | zero => intro i k hfu; exact absurd hfu (Nat.not_lt_zero _)
    | succ fu ih14 =>
      intro i k hfu14 hi ek
      intro ls hl
      refine lv_iload hx hb dX2_rankOf_14 (lv_at hl 0 rfl) ?_
      refine lv_iload hx hb dX2_rankOf_16 (lv_at hl 1 rfl) ?_
      refine sp_ge (by omega) (by omega) (tgt := 50) hx hb dX2_rankOf_18 (by decide) (fun c18 => ?_) (fun c18 => ?_)
      · skip
        refine lv_iload_n hx hb dX2_rankOf_50 rfl (lv_at hl 3 rfl) ?_
        refine sp_top (show nI k = nI (cRankOf T (T b).1 n) from by rw [ek, show min i n = n by omega]) ?_
        subst hQ
        exact W.iret hx hb hr (fun t ht _ => ⟨rfl, ht⟩) (fun _ h => nomatch h) dX2_rankOf_51
      · skip
        refine lv_aload_n hx hb dX2_rankOf_21 rfl (lv_at hl 2 rfl) ?_
        refine lv_iload hx hb dX2_rankOf_22 (lv_at hl 0 rfl) ?_
        refine sp_aald hx hb hK hP 5 rfl (by omega) (by decide) dX2_rankOf_24 (fun cin => ?_) (fun cin => ?_)
        · skip
          refine lv_astore (lv' := [(6, .ref (ad (i + 2) 0)), (5, .int (nI i)), (4, .int (nI 6)), (3, .ref ts), (2, .int (nI k)), (0, .ref r), (1, .ref (ad b 0))]) hx hb dX2_rankOf_25 hl (by decide) rfl (fun ls hl => ?_)
          refine lv_aload hx hb dX2_rankOf_27 (lv_at hl 0 rfl) ?_
          refine lv_ifnull hx hb dX2_rankOf_29 ?_
          refine lv_aload hx hb dX2_rankOf_32 (lv_at hl 0 rfl) ?_
          refine lv_aload_n hx hb dX2_rankOf_34 rfl (lv_at hl 6 rfl) ?_
          refine sp_rV (rest := []) (As := [.ref (ad b 0)]) ⟨hx, hb, hml, hown, hts⟩ (mX0_isAheadOf l D cI cT (ad (i + 2) 0) (ad (i + 2) 1) (ad (i + 2) 2) (ad (i + 2) 3) (ad b 0) (ad b 1) (ad b 2) (ad b 3) ((T (i + 2)).1) ((T b).1)) (cwV 1 hts gX2_rankOf_X0_isAheadOf rfl rfl rfl (by decide +kernel) ⟨Nat.le_of_ble_eq_true rfl, Nat.le_of_ble_eq_true rfl⟩) hK (va_P.app (w1 := [(ad (i + 2) 0, oT ((T (i + 2)).1) (ad (i + 2) 1) (ad (i + 2) 2) (ad (i + 2) 3))]) (w2 := [(ad b 0, oT ((T b).1) (ad b 1) (ad b 2) (ad b 3))]) ((blk_P hP (show i + 2 < n + 2 by omega)).sub (ws' := [(ad (i + 2) 0, oT ((T (i + 2)).1) (ad (i + 2) 1) (ad (i + 2) 2) (ad (i + 2) 3))]) [0] rfl) ((blk_P hP (show b < n + 2 by omega)).sub (ws' := [(ad b 0, oT ((T b).1) (ad b 1) (ad b 2) (ad b 3))]) [0] rfl)) (ci := 0) rfl rfl rfl rfl hl.1 rfl (Nat.le_of_ble_eq_true rfl) dX2_rankOf_35 ⟨Nat.le_of_ble_eq_true rfl, Nat.le_of_ble_eq_true rfl⟩ ?_
          refine sp_if_eq (tgt := 44) hx hb dX2_rankOf_38 (by decide) (fun c38 => ?_) (fun c38 => ?_)
          · skip
            refine lv_iinc (v := nI (i + 1)) (lv' := [(5, .int (nI (i + 1))), (6, .ref (ad (i + 2) 0)), (4, .int (nI 6)), (3, .ref ts), (2, .int (nI k)), (0, .ref r), (1, .ref (ad b 0))]) hx hb dX2_rankOf_44 hl (k := 1) rfl ((nI_1 i)) (by decide) rfl (fun ls hl => ?_)
            refine lv_goto (tgt := 14) hx hb dX2_rankOf_47 (by decide) ?_
            exact ih14 (i + 1) k (by omega) (by omega) (by rw [ek, show min i n = i by omega, show min (i + 1) n = i + 1 by omega]; simp [cRankOf, cnt, c38]) ls (lv_sub hl [0, 2, 3, 4, 5, 6] rfl)
          · skip
            refine lv_iinc (v := nI (k + 1)) (lv' := [(2, .int (nI (k + 1))), (6, .ref (ad (i + 2) 0)), (5, .int (nI i)), (4, .int (nI 6)), (3, .ref ts), (0, .ref r), (1, .ref (ad b 0))]) hx hb dX2_rankOf_41 hl (k := 4) rfl ((nI_1 k)) (by decide) rfl (fun ls hl => ?_)
            refine lv_iinc (v := nI (i + 1)) (lv' := [(5, .int (nI (i + 1))), (2, .int (nI (k + 1))), (6, .ref (ad (i + 2) 0)), (4, .int (nI 6)), (3, .ref ts), (0, .ref r), (1, .ref (ad b 0))]) hx hb dX2_rankOf_44 hl (k := 2) rfl ((nI_1 i)) (by decide) rfl (fun ls hl => ?_)
            refine lv_goto (tgt := 14) hx hb dX2_rankOf_47 (by decide) ?_
            exact ih14 (i + 1) (k + 1) (by omega) (by omega) (by rw [ek, show min i n = i by omega, show min (i + 1) n = i + 1 by omega]; simp [cRankOf, cnt, c38]) ls (lv_sub hl [0, 3, 4, 1, 5, 6] rfl)
        · skip
          refine lv_astoreN (lv' := [(6, .null), (5, .int (nI i)), (4, .int (nI 6)), (3, .ref ts), (2, .int (nI k)), (0, .ref r), (1, .ref (ad b 0))]) hx hb dX2_rankOf_25 hl (by decide) rfl (fun ls hl => ?_)
          refine lv_aloadN hx hb dX2_rankOf_27 (lv_at hl 0 rfl) ?_
          refine lv_ifnullN (tgt := 44) hx hb dX2_rankOf_29 (by decide) ?_
          refine lv_iinc (v := nI (i + 1)) (lv' := [(5, .int (nI (i + 1))), (6, .null), (4, .int (nI 6)), (3, .ref ts), (2, .int (nI k)), (0, .ref r), (1, .ref (ad b 0))]) hx hb dX2_rankOf_44 hl (k := 1) rfl ((nI_1 i)) (by decide) rfl (fun ls hl => ?_)
          refine lv_goto (tgt := 14) hx hb dX2_rankOf_47 (by decide) ?_
          exact ih14 (i + 1) k (by omega) (by omega) (by rw [ek, show min i n = n by omega, show min (i + 1) n = n by omega]) ls (lv_sub hl [0, 2, 3, 4, 5, 6] rfl)
  exact loop14 _ 0 0 (Nat.lt_succ_self _) (Nat.zero_le _) (by rw [Nat.zero_min]; rfl) ls (lv_sub hl [0, 1, 2, 3, 4, 5] rfl)

abbrev rmX2_teamAtRank : Room := { frames := 3, cells := 0, slots := 0, locals := 67 }
set_option maxHeartbeats 4000000 in
set_option maxRecDepth 100000 in
/-- the team with a rank -/
theorem mX2_teamAtRank (l : Launch) (D : va_G) (cI cT : ClassId) (r tr k1 k2 k3 ts : Nat) (ad : Nat → Nat → Nat) (n : Nat) (hn : n ≤ 6) (tick : Int32) (KF S U V : Nat → Int32) (T : Nat → TV) (x : Int32) : MetR l D cI cT yX2_teamAtRank wsX2_teamAtRank rmX2_teamAtRank [.ref r, .int x] ([(r, oR tr ts (ad 0 0) (ad 1 0) (nI n) tick), (tr, oK KF k1 k2 k3), (k1, aI cI 12 S), (k2, aI cI 12 U), (k3, aI cI 12 V), (ts, aQ cT 6 (tq ad n))] ++ blks cI ad T (n + 2)) (cAtRank T n x) := by
  refine Met.ofW (cc := cX2_teamAtRank) (maxL := 6) (ret := (some .int)) (by decide) rfl ?_
  intro p e s m args below meth c s₁ B hml hv
  obtain ⟨hargs, hP, hK⟩ := hv
  have hx := B.exec
  have hb := B.bytes
  have hr := B.returns
  have hts := atoms_spec (ws := wsX2_teamAtRank) B.pre
  have hown : s.vm.findClass RX2 = some m.cls := findClass_of_methodNamed B.named
  have hlocks := B.notSynchronized
  have hiX0 : ∀ w ∈ u_ws RX0 TX0 20, w ∈ wsX2_teamAtRank := by decide +kernel
  have hiX2 : ∀ w ∈ u_ws RX2 TX2 6, w ∈ wsX2_teamAtRank := by decide +kernel
  have he : entryFrame m args 6 = F0 m 0 ((lg_sl [.ref r, .int x] ++ List.replicate (6 - (lg_sl [.ref r, .int x]).length) Slot.unset).toArray) [] := by rw [hargs]; exact lg_entry_eq m _ _
  rw [he]
  change W p l e rmX2_teamAtRank s m args below meth c s.heap [] 0 0 (MQ below (QcRead (cAtRank T n x)) args s 0 0 (fun _ => False)) _
  obtain ⟨Q, hQ⟩ : ∃ Q, Q = MQ below (QcRead (cAtRank T n x)) args s 0 0 (fun _ => False) := ⟨_, rfl⟩
  rw [← hQ]
  have hl := lv_entry [.ref r, .int x] (n := 6) (Nat.le_of_ble_eq_true rfl)
  generalize (lg_sl [.ref r, .int x] ++ List.replicate (6 - (lg_sl [.ref r, .int x]).length) Slot.unset).toArray = ls at hl ⊢
  have hl : lv_has ls 6 [(0, .ref r), (1, .int x)] := hl
  refine lv_aload_n hx hb dX2_teamAtRank_0 rfl (lv_at hl 0 rfl) ?_
  refine va_get (D := D) (ci := 2) (v := .ref ts) (C := RX2) (T := TX2) (N := 6) hx hb hts hiX2 hown hK.1 hP 0 rfl rfl 1 (by decide) (hts (.fieldLink RX2 18 "SledgeRace" "teams" "[LSledgeRace$Team;") (by decide +kernel)) (fun _ h9 => h9) rfl dX2_teamAtRank_1 ?_
  refine lv_astore_n (lv' := [(2, .ref ts), (0, .ref r), (1, .int x)]) hx hb dX2_teamAtRank_4 rfl hl (by decide) rfl (fun ls hl => ?_)
  refine lv_aload_n hx hb dX2_teamAtRank_5 rfl (lv_at hl 0 rfl) ?_
  refine va_alen hx hb hK.1 hP 5 1 rfl rfl (v := nI 6) rfl dX2_teamAtRank_6 ?_
  refine lv_istore_n (lv' := [(3, .int (nI 6)), (2, .ref ts), (0, .ref r), (1, .int x)]) hx hb dX2_teamAtRank_7 rfl hl (by decide) rfl (fun ls hl => ?_)
  refine lv_iconst (v := nI 0) hx hb dX2_teamAtRank_8 (by decide) ?_
  refine lv_istore (lv' := [(4, .int (nI 0)), (3, .int (nI 6)), (2, .ref ts), (0, .ref r), (1, .int x)]) hx hb dX2_teamAtRank_9 hl (by decide) rfl (fun ls hl => ?_)
  have loop11 : ∀ (fu : Nat) (i : Nat), (6 - i) < fu → (i ≤ 6) → (∀ t, t < min i n → (fun t => decide (nI (cRankOf T (T (t + 2)).1 n) = x)) t = false) → ∀ (ls : Array Slot), lv_has ls 6 [(4, .int (nI i)), (3, .int (nI 6)), (2, .ref ts), (0, .ref r), (1, .int x)] → W p l e rmX2_teamAtRank s m args below meth c s.heap [] 0 0 Q (F0 m 11 ls []) := by
    intro fu
    induction fu with
    | zero => intro i hfu; exact absurd hfu (Nat.not_lt_zero _)
    | succ fu ih11 =>
      intro i hfu11 hi hno
      intro ls hl
      refine lv_iload hx hb dX2_teamAtRank_11 (lv_at hl 0 rfl) ?_
      refine lv_iload_n hx hb dX2_teamAtRank_13 rfl (lv_at hl 1 rfl) ?_
      refine sp_ge (by omega) (by omega) (tgt := 50) hx hb dX2_teamAtRank_14 (by decide) (fun c14 => ?_) (fun c14 => ?_)
      · skip
        refine lv_iconst (v := (-1)) hx hb dX2_teamAtRank_50 (by decide) ?_
        refine sp_top (show (-1) = cAtRank T n x from by unfold cAtRank; rw [show ft (fun t => decide (nI (cRankOf T (T (t + 2)).1 n) = x)) n = n from ft_out (fun t ht => hno t (by omega)), if_neg (Nat.lt_irrefl n)]) ?_
        subst hQ
        exact W.iret hx hb hr (fun t ht _ => ⟨rfl, ht⟩) (fun _ h => nomatch h) dX2_teamAtRank_51
      · skip
        refine lv_aload_n hx hb dX2_teamAtRank_17 rfl (lv_at hl 2 rfl) ?_
        refine lv_iload hx hb dX2_teamAtRank_18 (lv_at hl 0 rfl) ?_
        refine sp_aald hx hb hK hP 5 rfl (by omega) (by decide) dX2_teamAtRank_20 (fun cin => ?_) (fun cin => ?_)
        · skip
          refine lv_astore (lv' := [(5, .ref (ad (i + 2) 0)), (4, .int (nI i)), (3, .int (nI 6)), (2, .ref ts), (0, .ref r), (1, .int x)]) hx hb dX2_teamAtRank_21 hl (by decide) rfl (fun ls hl => ?_)
          refine lv_aload hx hb dX2_teamAtRank_23 (lv_at hl 0 rfl) ?_
          refine lv_ifnull hx hb dX2_teamAtRank_25 ?_
          refine lv_aload_n hx hb dX2_teamAtRank_28 rfl (lv_at hl 4 rfl) ?_
          refine lv_aload hx hb dX2_teamAtRank_29 (lv_at hl 0 rfl) ?_
          refine sp_rV (rest := []) (As := [.ref (ad (i + 2) 0)]) ⟨hx, hb, hml, hown, hts⟩ (mX2_rankOf l D cI cT r tr k1 k2 k3 ts ad n hn tick KF S U V T (i + 2) (by omega)) (cwV 1 hts gX2_teamAtRank_X2_rankOf rfl rfl rfl (by decide +kernel) ⟨Nat.le_of_ble_eq_true rfl, Nat.le_of_ble_eq_true rfl⟩) hK hP (ci := 2) rfl rfl rfl rfl hl.1 rfl (Nat.le_of_ble_eq_true rfl) dX2_teamAtRank_31 ⟨Nat.le_of_ble_eq_true rfl, Nat.le_of_ble_eq_true rfl⟩ ?_
          refine lv_iload_n hx hb dX2_teamAtRank_34 rfl (lv_at hl 5 rfl) ?_
          refine lv_icmp_ne (tgt := 44) hx hb dX2_teamAtRank_35 (by decide) (fun c35 => ?_) (fun c35 => ?_)
          · skip
            refine lv_iinc (v := nI (i + 1)) (lv' := [(4, .int (nI (i + 1))), (5, .ref (ad (i + 2) 0)), (3, .int (nI 6)), (2, .ref ts), (0, .ref r), (1, .int x)]) hx hb dX2_teamAtRank_44 hl (k := 1) rfl ((nI_1 i)) (by decide) rfl (fun ls hl => ?_)
            refine lv_goto (tgt := 11) hx hb dX2_teamAtRank_47 (by decide) ?_
            exact ih11 (i + 1) (by omega) (by omega) (fun t ht => (Nat.lt_or_ge t i).elim (fun z => hno t (by omega)) (fun z => by have e : t = i := (by omega); subst e; simp [c35])) ls (lv_sub hl [0, 2, 3, 4, 5] rfl)
          · skip
            refine lv_aload hx hb dX2_teamAtRank_38 (lv_at hl 0 rfl) ?_
            refine va_getN (D := D) (ci := 0) (v := .int (((T (i + 2)).1) 0)) (C := RX0) (T := TX0) (N := 20) hx hb hts hiX0 hown hK.1 (blk_P hP (show i + 2 < n + 2 by omega)) 0 rfl rfl 0 (by decide) (hK.n (w := .fieldLinkNest RX2 209 "SledgeRace$Team" "number" "I" "SledgeRace") (by decide +kernel)) (fun _ h9 => h9) rfl dX2_teamAtRank_40 ?_
            refine sp_top (show ((T (i + 2)).1) 0 = cAtRank T n x from by unfold cAtRank; rw [show ft (fun t => decide (nI (cRankOf T (T (t + 2)).1 n) = x)) n = i from ft_is cin hno (by simp [c35]), if_pos cin]) ?_
            subst hQ
            exact W.iret hx hb hr (fun t ht _ => ⟨rfl, ht⟩) (fun _ h => nomatch h) dX2_teamAtRank_43
        · skip
          refine lv_astoreN (lv' := [(5, .null), (4, .int (nI i)), (3, .int (nI 6)), (2, .ref ts), (0, .ref r), (1, .int x)]) hx hb dX2_teamAtRank_21 hl (by decide) rfl (fun ls hl => ?_)
          refine lv_aloadN hx hb dX2_teamAtRank_23 (lv_at hl 0 rfl) ?_
          refine lv_ifnullN (tgt := 44) hx hb dX2_teamAtRank_25 (by decide) ?_
          refine lv_iinc (v := nI (i + 1)) (lv' := [(4, .int (nI (i + 1))), (5, .null), (3, .int (nI 6)), (2, .ref ts), (0, .ref r), (1, .int x)]) hx hb dX2_teamAtRank_44 hl (k := 1) rfl ((nI_1 i)) (by decide) rfl (fun ls hl => ?_)
          refine lv_goto (tgt := 11) hx hb dX2_teamAtRank_47 (by decide) ?_
          exact ih11 (i + 1) (by omega) (by omega) (fun t ht => hno t (by omega)) ls (lv_sub hl [0, 2, 3, 4, 5] rfl)
  exact loop11 _ 0 (Nat.lt_succ_self _) (Nat.zero_le _) (fun t ht => absurd ht (by omega)) ls (lv_sub hl [0, 1, 2, 3, 4] rfl)

abbrev rmX2_mean : Room := { frames := 0, cells := 0, slots := 0, locals := 0 }
set_option maxHeartbeats 4000000 in
set_option maxRecDepth 100000 in
/-- mean -/
theorem mX2_mean (l : Launch) (D : va_G) (cI cT : ClassId) (r tr k1 k2 k3 ts : Nat) (ad : Nat → Nat → Nat) (n : Nat) (hn : n ≤ 6) (tick : Int32) (KF S U V : Nat → Int32) (T : Nat → TV) : MetDD l D cI cT yX2_mean wsX2_mean rmX2_mean [.ref r] ([(r, oR tr ts (ad 0 0) (ad 1 0) (nI n) tick), (tr, oK KF k1 k2 k3), (k1, aI cI 12 S), (k2, aI cI 12 U), (k3, aI cI 12 V), (ts, aQ cT 6 (tq ad n))] ++ blks cI ad T (n + 2)) [] ([(r, oR tr ts (ad 0 0) (ad 1 0) (nI n) tick), (tr, oK KF k1 k2 k3), (k1, aI cI 12 S), (k2, aI cI 12 U), (k3, aI cI 12 V), (ts, aQ cT 6 (tq ad n))] ++ blks cI ad T (n + 2)) (meanP (cFronts T n) n) := by
  refine MetD.ofW (cc := cX2_mean) (maxL := 6) (ret := (some .double)) (by decide) rfl ?_
  intro p e s m args below meth c s₁ B hml hv hd0
  obtain ⟨hargs, hP, hR0, hK, hN⟩ := hv
  have hx := B.exec
  have hb := B.bytes
  have hr := B.returns
  have hts := atoms_spec (ws := wsX2_mean) B.pre
  have hts := dr_words hts s.drawn
  have hown : s.vm.findClass RX2 = some m.cls := findClass_of_methodNamed B.named
  have hlocks := B.notSynchronized
  have hiX0 : ∀ w ∈ u_ws RX0 TX0 20, w ∈ wsX2_mean := by decide +kernel
  have hiX2 : ∀ w ∈ u_ws RX2 TX2 6, w ∈ wsX2_mean := by decide +kernel
  have he : entryFrame m args 6 = F0 m 0 ((lg_sl [.ref r] ++ List.replicate (6 - (lg_sl [.ref r]).length) Slot.unset).toArray) [] := by rw [hargs]; exact lg_entry_eq m _ _
  rw [he]
  change W p l e rmX2_mean (s.setDrawn s.drawn) m args below meth c s.heap [] 0 0 (MQD lw_cs below (va_Qd (S := Unit) (fun z _ => meanP (cFronts T n) n z) (fun _ t => va_P D vwCl ([(r, oR tr ts (ad 0 0) (ad 1 0) (nI n) tick), (tr, oK KF k1 k2 k3), (k1, aI cI 12 S), (k2, aI cI 12 U), (k3, aI cI 12 V), (ts, aQ cT 6 (tq ad n))] ++ blks cI ad T (n + 2)) t.heap) (fr (List.map Prod.fst ([(r, oR tr ts (ad 0 0) (ad 1 0) (nI n) tick), (tr, oK KF k1 k2 k3), (k1, aI cI 12 S), (k2, aI cI 12 U), (k3, aI cI 12 V), (ts, aQ cT 6 (tq ad n))] ++ blks cI ad T (n + 2))))) args s 0 0 (fr (List.map Prod.fst ([(r, oR tr ts (ad 0 0) (ad 1 0) (nI n) tick), (tr, oK KF k1 k2 k3), (k1, aI cI 12 S), (k2, aI cI 12 U), (k3, aI cI 12 V), (ts, aQ cT 6 (tq ad n))] ++ blks cI ad T (n + 2))))) _
  obtain ⟨Q, hQ⟩ : ∃ Q, Q = MQD lw_cs below (va_Qd (S := Unit) (fun z _ => meanP (cFronts T n) n z) (fun _ t => va_P D vwCl ([(r, oR tr ts (ad 0 0) (ad 1 0) (nI n) tick), (tr, oK KF k1 k2 k3), (k1, aI cI 12 S), (k2, aI cI 12 U), (k3, aI cI 12 V), (ts, aQ cT 6 (tq ad n))] ++ blks cI ad T (n + 2)) t.heap) (fr (List.map Prod.fst ([(r, oR tr ts (ad 0 0) (ad 1 0) (nI n) tick), (tr, oK KF k1 k2 k3), (k1, aI cI 12 S), (k2, aI cI 12 U), (k3, aI cI 12 V), (ts, aQ cT 6 (tq ad n))] ++ blks cI ad T (n + 2))))) args s 0 0 (fr (List.map Prod.fst ([(r, oR tr ts (ad 0 0) (ad 1 0) (nI n) tick), (tr, oK KF k1 k2 k3), (k1, aI cI 12 S), (k2, aI cI 12 U), (k3, aI cI 12 V), (ts, aQ cT 6 (tq ad n))] ++ blks cI ad T (n + 2)))) := ⟨_, rfl⟩
  rw [← hQ]
  have hl := lv_entry [.ref r] (n := 6) (Nat.le_of_ble_eq_true rfl)
  generalize (lg_sl [.ref r] ++ List.replicate (6 - (lg_sl [.ref r]).length) Slot.unset).toArray = ls at hl ⊢
  have hl : lv_has ls 6 [(0, .ref r)] := hl
  obtain ⟨A, hAe⟩ : ∃ A, A = (fr (List.map Prod.fst ([(r, oR tr ts (ad 0 0) (ad 1 0) (nI n) tick), (tr, oK KF k1 k2 k3), (k1, aI cI 12 S), (k2, aI cI 12 U), (k3, aI cI 12 V), (ts, aQ cT 6 (tq ad n))] ++ blks cI ad T (n + 2)))) := ⟨_, rfl⟩
  have hA0 : ∀ q ∈ List.map Prod.fst ([(r, oR tr ts (ad 0 0) (ad 1 0) (nI n) tick), (tr, oK KF k1 k2 k3), (k1, aI cI 12 S), (k2, aI cI 12 U), (k3, aI cI 12 V), (ts, aQ cT 6 (tq ad n))] ++ blks cI ad T (n + 2)), A q := by rw [hAe]; exact fun q h => h
  have hD : va_D A ([(r, oR tr ts (ad 0 0) (ad 1 0) (nI n) tick), (tr, oK KF k1 k2 k3), (k1, aI cI 12 S), (k2, aI cI 12 U), (k3, aI cI 12 V), (ts, aQ cT 6 (tq ad n))] ++ blks cI ad T (n + 2)) := sp_D (List.nodup_append.mp (show ((([(r, oR tr ts (ad 0 0) (ad 1 0) (nI n) tick), (tr, oK KF k1 k2 k3), (k1, aI cI 12 S), (k2, aI cI 12 U), (k3, aI cI 12 V), (ts, aQ cT 6 (tq ad n))] ++ blks cI ad T (n + 2)) : va_W).map Prod.fst ++ ([] : va_W).map Prod.fst).Nodup by rw [← List.map_append]; exact hN)).1 hA0
  have hN : (List.map Prod.fst (([(r, oR tr ts (ad 0 0) (ad 1 0) (nI n) tick), (tr, oK KF k1 k2 k3), (k1, aI cI 12 S), (k2, aI cI 12 U), (k3, aI cI 12 V), (ts, aQ cT 6 (tq ad n))] ++ blks cI ad T (n + 2)) ++ []) : List Nat).Nodup := hN
  have hS : va_S A s.heap s.heap [] := va_S.rf
  obtain ⟨H, hH0⟩ : ∃ H, H = s.heap := ⟨_, rfl⟩
  obtain ⟨locs, hlo⟩ : ∃ L : List Loc, L = [] := ⟨_, rfl⟩
  have hP : va_P D vwCl ([(r, oR tr ts (ad 0 0) (ad 1 0) (nI n) tick), (tr, oK KF k1 k2 k3), (k1, aI cI 12 S), (k2, aI cI 12 U), (k3, aI cI 12 V), (ts, aQ cT 6 (tq ad n))] ++ blks cI ad T (n + 2)) H := by rw [hH0]; exact hP
  have hS : va_S A s.heap H locs := by rw [hH0, hlo]; exact hS
  rw [show W p l e rmX2_mean (s.setDrawn s.drawn) m args below meth c s.heap [] 0 0 Q (F0 m 0 ls []) = W p l e rmX2_mean (s.setDrawn s.drawn) m args below meth c H locs 0 0 Q (F0 m 0 ls []) by rw [hH0, hlo]]
  clear hH0 hlo
  refine lv_aload_n hx hb dX2_mean_0 rfl (lv_at hl 0 rfl) ?_
  refine va_get (D := D) (ci := 2) (v := .int (nI n)) (C := RX2) (T := TX2) (N := 6) hx hb hts hiX2 hown hK.1 hP 0 rfl rfl 4 (by decide) (hts (.fieldLink RX2 32 "SledgeRace" "teamCount" "I") (by decide +kernel)) (fun _ h9 => h9) rfl dX2_mean_1 ?_
  refine lv_if_gt (tgt := 9) hx hb dX2_mean_4 (by decide) (fun c4 => ?_) (fun c4 => ?_)
  · skip
    refine lv_iconst (v := 0) hx hb dX2_mean_9 (by decide) ?_
    refine lv_istore_n (lv' := [(1, .int 0), (0, .ref r)]) hx hb dX2_mean_10 rfl hl (by decide) rfl (fun ls hl => ?_)
    refine lv_aload_n hx hb dX2_mean_11 rfl (lv_at hl 1 rfl) ?_
    refine va_get (D := D) (ci := 2) (v := .ref ts) (C := RX2) (T := TX2) (N := 6) hx hb hts hiX2 hown hK.1 hP 0 rfl rfl 1 (by decide) (hts (.fieldLink RX2 18 "SledgeRace" "teams" "[LSledgeRace$Team;") (by decide +kernel)) (fun _ h9 => h9) rfl dX2_mean_12 ?_
    refine lv_astore_n (lv' := [(2, .ref ts), (1, .int 0), (0, .ref r)]) hx hb dX2_mean_15 rfl hl (by decide) rfl (fun ls hl => ?_)
    refine lv_aload_n hx hb dX2_mean_16 rfl (lv_at hl 0 rfl) ?_
    refine va_alen hx hb hK.1 hP 5 1 rfl rfl (v := nI 6) rfl dX2_mean_17 ?_
    refine lv_istore_n (lv' := [(3, .int (nI 6)), (2, .ref ts), (1, .int 0), (0, .ref r)]) hx hb dX2_mean_18 rfl hl (by decide) rfl (fun ls hl => ?_)
    refine lv_iconst (v := nI 0) hx hb dX2_mean_19 (by decide) ?_
    refine lv_istore (lv' := [(4, .int (nI 0)), (3, .int (nI 6)), (2, .ref ts), (1, .int 0), (0, .ref r)]) hx hb dX2_mean_20 hl (by decide) rfl (fun ls hl => ?_)
    have loop22 : ∀ (fu : Nat) (i : Nat) (k : Int32), (6 - i) < fu → (i ≤ 6) → (k = cFronts T (min i n)) → ∀ (H : Heap) (locs : List Loc), va_P D vwCl ([(r, oR tr ts (ad 0 0) (ad 1 0) (nI n) tick), (tr, oK KF k1 k2 k3), (k1, aI cI 12 S), (k2, aI cI 12 U), (k3, aI cI 12 V), (ts, aQ cT 6 (tq ad n))] ++ blks cI ad T (n + 2)) H → va_D A ([(r, oR tr ts (ad 0 0) (ad 1 0) (nI n) tick), (tr, oK KF k1 k2 k3), (k1, aI cI 12 S), (k2, aI cI 12 U), (k3, aI cI 12 V), (ts, aQ cT 6 (tq ad n))] ++ blks cI ad T (n + 2)) → va_S A s.heap H locs → ∀ (ls : Array Slot), lv_has ls 6 [(4, .int (nI i)), (3, .int (nI 6)), (2, .ref ts), (1, .int k), (0, .ref r)] → W p l e rmX2_mean (s.setDrawn s.drawn) m args below meth c H locs 0 0 Q (F0 m 22 ls []) := by
      intro fu
      induction fu with
      | zero => intro i k hfu; exact absurd hfu (Nat.not_lt_zero _)
      | succ fu ih22 =>
        intro i k hfu22 hi ek
        intro H locs hP hD hS ls hl
        refine lv_iload hx hb dX2_mean_22 (lv_at hl 0 rfl) ?_
        refine lv_iload_n hx hb dX2_mean_24 rfl (lv_at hl 1 rfl) ?_
        refine sp_ge (by omega) (by omega) (tgt := 53) hx hb dX2_mean_25 (by decide) (fun c25 => ?_) (fun c25 => ?_)
        · skip
          refine lv_iload_n hx hb dX2_mean_53 rfl (lv_at hl 3 rfl) ?_
          refine lv_i2d hx hb dX2_mean_54 ?_
          refine lv_aload_n hx hb dX2_mean_55 rfl (lv_at hl 4 rfl) ?_
          refine va_get (D := D) (ci := 2) (v := .int (nI n)) (C := RX2) (T := TX2) (N := 6) hx hb hts hiX2 hown hK.1 hP 0 rfl rfl 4 (by decide) (hts (.fieldLink RX2 32 "SledgeRace" "teamCount" "I") (by decide +kernel)) (fun _ h9 => h9) rfl dX2_mean_56 ?_
          refine lv_i2d hx hb dX2_mean_59 ?_
          refine lv_ddiv_any hd0 lw_bits hx hb dX2_mean_60 (fun rd dd hal hd0 => ?_)
          have hv9 : meanP (cFronts T n) n rd := ⟨fun h => absurd c4 (by rw [h]; decide), fun _ => by rw [ek, show min i n = n by omega] at hal; exact hal⟩
          have hP9 : va_P D vwCl ([(r, oR tr ts (ad 0 0) (ad 1 0) (nI n) tick), (tr, oK KF k1 k2 k3), (k1, aI cI 12 S), (k2, aI cI 12 U), (k3, aI cI 12 V), (ts, aQ cT 6 (tq ad n))] ++ blks cI ad T (n + 2)) H := hP
          subst hQ
          subst hAe
          refine W.endD hd0 ?_
          exact W.dret hx hb hr (fun t ht hW => ⟨⟨_, (), rfl, hv9, by show va_P D vwCl _ t.heap; rw [ht]; exact hP9⟩, hS.F ht⟩) hS.2.2 dX2_mean_61
        · skip
          refine lv_aload_n hx hb dX2_mean_28 rfl (lv_at hl 2 rfl) ?_
          refine lv_iload hx hb dX2_mean_29 (lv_at hl 0 rfl) ?_
          refine sp_aald hx hb hK hP 5 rfl (by omega) (by decide) dX2_mean_31 (fun cin => ?_) (fun cin => ?_)
          · skip
            refine lv_astore (lv' := [(5, .ref (ad (i + 2) 0)), (4, .int (nI i)), (3, .int (nI 6)), (2, .ref ts), (1, .int k), (0, .ref r)]) hx hb dX2_mean_32 hl (by decide) rfl (fun ls hl => ?_)
            refine lv_aload hx hb dX2_mean_34 (lv_at hl 0 rfl) ?_
            refine lv_ifnull hx hb dX2_mean_36 ?_
            refine lv_iload_n hx hb dX2_mean_39 rfl (lv_at hl 4 rfl) ?_
            refine lv_aload hx hb dX2_mean_40 (lv_at hl 0 rfl) ?_
            refine va_getN (D := D) (ci := 0) (v := .int (((T (i + 2)).1) 10)) (C := RX0) (T := TX0) (N := 20) hx hb hts hiX0 hown hK.1 (blk_P hP (show i + 2 < n + 2 by omega)) 0 rfl rfl 10 (by decide) (hK.n (w := .fieldLinkNest RX2 171 "SledgeRace$Team" "front" "I" "SledgeRace") (by decide +kernel)) (fun _ h9 => h9) rfl dX2_mean_42 ?_
            refine lv_iadd hx hb dX2_mean_45 ?_
            refine lv_istore_n (lv' := [(1, .int (k + (((T (i + 2)).1) 10))), (5, .ref (ad (i + 2) 0)), (4, .int (nI i)), (3, .int (nI 6)), (2, .ref ts), (0, .ref r)]) hx hb dX2_mean_46 rfl hl (by decide) rfl (fun ls hl => ?_)
            refine lv_iinc (v := nI (i + 1)) (lv' := [(4, .int (nI (i + 1))), (1, .int (k + (((T (i + 2)).1) 10))), (5, .ref (ad (i + 2) 0)), (3, .int (nI 6)), (2, .ref ts), (0, .ref r)]) hx hb dX2_mean_47 hl (k := 2) rfl ((nI_1 i)) (by decide) rfl (fun ls hl => ?_)
            refine lv_goto (tgt := 22) hx hb dX2_mean_50 (by decide) ?_
            exact ih22 (i + 1) (k + (((T (i + 2)).1) 10)) (by omega) (by omega) (by rw [ek, show min i n = i by omega, show min (i + 1) n = i + 1 by omega]; rfl) _ _ hP hD hS ls (lv_sub hl [0, 3, 4, 1, 5] rfl)
          · skip
            refine lv_astoreN (lv' := [(5, .null), (4, .int (nI i)), (3, .int (nI 6)), (2, .ref ts), (1, .int k), (0, .ref r)]) hx hb dX2_mean_32 hl (by decide) rfl (fun ls hl => ?_)
            refine lv_aloadN hx hb dX2_mean_34 (lv_at hl 0 rfl) ?_
            refine lv_ifnullN (tgt := 47) hx hb dX2_mean_36 (by decide) ?_
            refine lv_iinc (v := nI (i + 1)) (lv' := [(4, .int (nI (i + 1))), (5, .null), (3, .int (nI 6)), (2, .ref ts), (1, .int k), (0, .ref r)]) hx hb dX2_mean_47 hl (k := 1) rfl ((nI_1 i)) (by decide) rfl (fun ls hl => ?_)
            refine lv_goto (tgt := 22) hx hb dX2_mean_50 (by decide) ?_
            exact ih22 (i + 1) k (by omega) (by omega) (by rw [ek, show min i n = n by omega, show min (i + 1) n = n by omega]) _ _ hP hD hS ls (lv_sub hl [0, 2, 3, 4, 5] rfl)
    exact loop22 _ 0 0 (Nat.lt_succ_self _) (Nat.zero_le _) (by rw [Nat.zero_min]; rfl) _ _ hP hD hS ls (lv_sub hl [0, 1, 2, 3, 4] rfl)
  · skip
    refine lv_dconst0 hx hb dX2_mean_7 ?_
    have hv9 : meanP (cFronts T n) n FP.dconst0 := ⟨fun _ => rfl, fun h => absurd ((nI_ltI (a := 0) (b := n) (by omega) (by omega)).mpr (by omega)) (by first | exact c4 | exact Int32.not_lt.mpr c4)⟩
    have hP9 : va_P D vwCl ([(r, oR tr ts (ad 0 0) (ad 1 0) (nI n) tick), (tr, oK KF k1 k2 k3), (k1, aI cI 12 S), (k2, aI cI 12 U), (k3, aI cI 12 V), (ts, aQ cT 6 (tq ad n))] ++ blks cI ad T (n + 2)) H := hP
    subst hQ
    subst hAe
    refine W.endD hd0 ?_
    exact W.dret hx hb hr (fun t ht hW => ⟨⟨_, (), rfl, hv9, by show va_P D vwCl _ t.heap; rw [ht]; exact hP9⟩, hS.F ht⟩) hS.2.2 dX2_mean_8
