abbrev rmX1_groundAt : Room := { frames := 1, cells := 0, slots := 0, locals := 13 }
set_option maxHeartbeats 4000000 in
set_option maxRecDepth 100000 in
/-- the ground at a place: slope -/
theorem mX1_groundAt0 (l : Launch) (D : va_G) (cI cT : ClassId) (k0 k1 k2 k3 : Nat) (KF S U V : Nat → Int32) (x : Int32) (ns : Nat) (hns : ns ≤ 12) (hk : KF 3 = nI ns) : MetR l D cI cT yX1_groundAt wsX1_groundAt rmX1_groundAt [.ref k0, .int x, .int 0] [(k0, oK KF k1 k2 k3), (k1, aI cI 12 S), (k2, aI cI 12 U), (k3, aI cI 12 V)] (cGr S U ns x) := by
  refine Met.ofW (cc := cX1_groundAt) (maxL := 8) (ret := (some .int)) (by decide) rfl ?_
  intro p e s m args below meth c s₁ B hml hv
  obtain ⟨hargs, hP, hK⟩ := hv
  have hx := B.exec
  have hb := B.bytes
  have hr := B.returns
  have hts := atoms_spec (ws := wsX1_groundAt) B.pre
  have hown : s.vm.findClass RX1 = some m.cls := findClass_of_methodNamed B.named
  have hlocks := B.notSynchronized
  have hiX1 : ∀ w ∈ u_ws RX1 TX1 5, w ∈ wsX1_groundAt := by decide +kernel
  have he : entryFrame m args 8 = F0 m 0 ((lg_sl [.ref k0, .int x, .int 0] ++ List.replicate (8 - (lg_sl [.ref k0, .int x, .int 0]).length) Slot.unset).toArray) [] := by rw [hargs]; exact lg_entry_eq m _ _
  rw [he]
  change W p l e rmX1_groundAt s m args below meth c s.heap [] 0 0 (MQ below (QcRead (cGr S U ns x)) args s 0 0 (fun _ => False)) _
  obtain ⟨Q, hQ⟩ : ∃ Q, Q = MQ below (QcRead (cGr S U ns x)) args s 0 0 (fun _ => False) := ⟨_, rfl⟩
  rw [← hQ]
  have hl := lv_entry [.ref k0, .int x, .int 0] (n := 8) (Nat.le_of_ble_eq_true rfl)
  generalize (lg_sl [.ref k0, .int x, .int 0] ++ List.replicate (8 - (lg_sl [.ref k0, .int x, .int 0]).length) Slot.unset).toArray = ls at hl ⊢
  have hl : lv_has ls 8 [(0, .ref k0), (1, .int x), (2, .int 0)] := hl
  refine lv_iload_n hx hb dX1_groundAt_0 rfl (lv_at hl 2 rfl) ?_
  refine lv_if_eq (tgt := 11) hx hb dX1_groundAt_1 (by decide) (fun _ => ?_) (fun c1 => absurd c1 (by decide))
  refine lv_aload_n hx hb dX1_groundAt_11 rfl (lv_at hl 0 rfl) ?_
  refine va_get (D := D) (ci := 1) (v := .ref k2) (C := RX1) (T := TX1) (N := 5) hx hb hts hiX1 hown hK.1 hP 0 rfl rfl 1 (by decide) (hts (.fieldLink RX1 13 "SledgeRace$Track" "slopes" "[I") (by decide +kernel)) (fun _ h9 => h9) rfl dX1_groundAt_12 ?_
  refine lv_astore_n (lv' := [(3, .ref k2), (0, .ref k0), (1, .int x), (2, .int 0)]) hx hb dX1_groundAt_15 rfl hl (by decide) rfl (fun ls hl => ?_)
  refine lv_iload_n hx hb dX1_groundAt_16 rfl (lv_at hl 2 rfl) ?_
  refine lv_iconst (v := 0) hx hb dX1_groundAt_17 (by decide) ?_
  refine va_mmax hx hb (hml.trans hl.1.symm) hown (hts (.methodLink RX1 26 Lib.Math.max.name) (by decide +kernel)) (hts (.static Lib.Math.max.name) (by decide +kernel)) (hts (.initialized "java/lang/Math") (by decide +kernel)) (hts (.code Lib.Math.max.name Lib.Math.max.code 2 (some .int)) (by decide +kernel)) (Nat.le_of_ble_eq_true rfl) (Nat.le_of_ble_eq_true rfl) (Nat.le_of_ble_eq_true rfl) (Nat.le_of_ble_eq_true rfl) dX1_groundAt_18 ?_
  change W _ _ _ _ _ _ _ _ _ _ _ _ _ _ _ (F0 m 21 ls (.int (imax x 0) :: _))
  refine lv_istore (lv' := [(4, .int (imax x 0)), (3, .ref k2), (0, .ref k0), (1, .int x), (2, .int 0)]) hx hb dX1_groundAt_21 hl (by decide) rfl (fun ls hl => ?_)
  refine lv_iconst (v := (-1)) hx hb dX1_groundAt_23 (by decide) ?_
  refine lv_istore (lv' := [(5, .int (-1)), (4, .int (imax x 0)), (3, .ref k2), (0, .ref k0), (1, .int x), (2, .int 0)]) hx hb dX1_groundAt_24 hl (by decide) rfl (fun ls hl => ?_)
  refine lv_iconst (v := 0) hx hb dX1_groundAt_26 (by decide) ?_
  refine lv_istore (lv' := [(6, .int 0), (5, .int (-1)), (4, .int (imax x 0)), (3, .ref k2), (0, .ref k0), (1, .int x), (2, .int 0)]) hx hb dX1_groundAt_27 hl (by decide) rfl (fun ls hl => ?_)
  refine lv_iconst (v := nI 0) hx hb dX1_groundAt_29 (by decide) ?_
  refine lv_istore (lv' := [(7, .int (nI 0)), (6, .int 0), (5, .int (-1)), (4, .int (imax x 0)), (3, .ref k2), (0, .ref k0), (1, .int x), (2, .int 0)]) hx hb dX1_groundAt_30 hl (by decide) rfl (fun ls hl => ?_)
  have loop32 : ∀ (fu : Nat) (i : Nat) (a : Int32) (b : Int32), (ns - i) < fu → (i ≤ ns) → (cGL S U (imax x 0) i = (a, b)) → ∀ (ls : Array Slot), lv_has ls 8 [(7, .int (nI i)), (6, .int b), (5, .int a), (4, .int (imax x 0)), (3, .ref k2), (0, .ref k0)] → W p l e rmX1_groundAt s m args below meth c s.heap [] 0 0 Q (F0 m 32 ls []) := by
    intro fu
    induction fu with
    | zero => intro i a b hfu; exact absurd hfu (Nat.not_lt_zero _)
    | succ fu ih32 =>
      intro i a b hfu32 hi hab
      intro ls hl
      refine lv_iload hx hb dX1_groundAt_32 (lv_at hl 0 rfl) ?_
      refine lv_aload_n hx hb dX1_groundAt_34 rfl (lv_at hl 5 rfl) ?_
      refine va_get (D := D) (ci := 1) (v := .int (nI ns)) (C := RX1) (T := TX1) (N := 5) hx hb hts hiX1 hown hK.1 hP 0 rfl rfl 3 (by decide) (hts (.fieldLink RX1 19 "SledgeRace$Track" "stretches" "I") (by decide +kernel)) (fun _ h9 => h9) (congrArg (fun z => some (Value.int z)) hk) dX1_groundAt_35 ?_
      refine sp_ge (by omega) (by omega) (tgt := 103) hx hb dX1_groundAt_38 (by decide) (fun c38 => ?_) (fun c38 => ?_)
      · skip
        refine lv_iload hx hb dX1_groundAt_103 (lv_at hl 1 rfl) ?_
        refine sp_top (show b = cGr S U ns x from by unfold cGr; rw [← show i = ns from by omega, hab]) ?_
        subst hQ
        exact W.iret hx hb hr (fun t ht _ => ⟨rfl, ht⟩) (fun _ h => nomatch h) dX1_groundAt_105
      · skip
        refine lv_iload hx hb dX1_groundAt_41 (lv_at hl 0 rfl) ?_
        refine lv_aload_n hx hb dX1_groundAt_43 rfl (lv_at hl 5 rfl) ?_
        refine va_get (D := D) (ci := 1) (v := .ref k1) (C := RX1) (T := TX1) (N := 5) hx hb hts hiX1 hown hK.1 hP 0 rfl rfl 0 (by decide) (hts (.fieldLink RX1 9 "SledgeRace$Track" "starts" "[I") (by decide +kernel)) (fun _ h9 => h9) rfl dX1_groundAt_44 ?_
        refine va_alen hx hb hK.1 hP 1 0 rfl rfl (v := nI 12) rfl dX1_groundAt_47 ?_
        refine sp_ge (by omega) (by omega) (tgt := 103) hx hb dX1_groundAt_48 (by decide) (fun c48 => absurd c48 (by omega)) (fun _ => ?_)
        refine lv_iload hx hb dX1_groundAt_51 (lv_at hl 0 rfl) ?_
        refine lv_aload_n hx hb dX1_groundAt_53 rfl (lv_at hl 4 rfl) ?_
        refine va_alen hx hb hK.1 hP 2 0 rfl rfl (v := nI 12) rfl dX1_groundAt_54 ?_
        refine sp_ge (by omega) (by omega) (tgt := 103) hx hb dX1_groundAt_55 (by decide) (fun c55 => absurd c55 (by omega)) (fun _ => ?_)
        refine lv_aload_n hx hb dX1_groundAt_58 rfl (lv_at hl 5 rfl) ?_
        refine va_get (D := D) (ci := 1) (v := .ref k1) (C := RX1) (T := TX1) (N := 5) hx hb hts hiX1 hown hK.1 hP 0 rfl rfl 0 (by decide) (hts (.fieldLink RX1 9 "SledgeRace$Track" "starts" "[I") (by decide +kernel)) (fun _ h9 => h9) rfl dX1_groundAt_59 ?_
        refine lv_iload hx hb dX1_groundAt_62 (lv_at hl 0 rfl) ?_
        refine sp_iald hx hb hK.1 hP 1 0 rfl rfl (by omega) (by omega) dX1_groundAt_64 ?_
        refine lv_iload hx hb dX1_groundAt_65 (lv_at hl 3 rfl) ?_
        refine lv_icmp_gt (tgt := 97) hx hb dX1_groundAt_67 (by decide) (fun c67 => ?_) (fun c67 => ?_)
        · skip
          refine lv_iinc (v := nI (i + 1)) (lv' := [(7, .int (nI (i + 1))), (6, .int b), (5, .int a), (4, .int (imax x 0)), (3, .ref k2), (0, .ref k0)]) hx hb dX1_groundAt_97 hl (k := 0) rfl ((nI_1 i)) (by decide) rfl (fun ls hl => ?_)
          refine lv_goto (tgt := 32) hx hb dX1_groundAt_100 (by decide) ?_
          exact ih32 (i + 1) a b (by omega) (by omega) (by simp only [cGL, hab]; rw [if_neg (fun q => q.1 c67)]) ls (lv_sub hl [0, 1, 2, 3, 4, 5] rfl)
        · skip
          refine lv_aload_n hx hb dX1_groundAt_70 rfl (lv_at hl 5 rfl) ?_
          refine va_get (D := D) (ci := 1) (v := .ref k1) (C := RX1) (T := TX1) (N := 5) hx hb hts hiX1 hown hK.1 hP 0 rfl rfl 0 (by decide) (hts (.fieldLink RX1 9 "SledgeRace$Track" "starts" "[I") (by decide +kernel)) (fun _ h9 => h9) rfl dX1_groundAt_71 ?_
          refine lv_iload hx hb dX1_groundAt_74 (lv_at hl 0 rfl) ?_
          refine sp_iald hx hb hK.1 hP 1 0 rfl rfl (by omega) (by omega) dX1_groundAt_76 ?_
          refine lv_iload hx hb dX1_groundAt_77 (lv_at hl 2 rfl) ?_
          refine lx_icmp_le (tgt := 97) hx hb dX1_groundAt_79 (by decide) (fun c79 => ?_) (fun c79 => ?_)
          · skip
            refine lv_iinc (v := nI (i + 1)) (lv' := [(7, .int (nI (i + 1))), (6, .int b), (5, .int a), (4, .int (imax x 0)), (3, .ref k2), (0, .ref k0)]) hx hb dX1_groundAt_97 hl (k := 0) rfl ((nI_1 i)) (by decide) rfl (fun ls hl => ?_)
            refine lv_goto (tgt := 32) hx hb dX1_groundAt_100 (by decide) ?_
            exact ih32 (i + 1) a b (by omega) (by omega) (by simp only [cGL, hab]; rw [if_neg (fun q => c79 q.2)]) ls (lv_sub hl [0, 1, 2, 3, 4, 5] rfl)
          · skip
            refine lv_aload_n hx hb dX1_groundAt_82 rfl (lv_at hl 5 rfl) ?_
            refine va_get (D := D) (ci := 1) (v := .ref k1) (C := RX1) (T := TX1) (N := 5) hx hb hts hiX1 hown hK.1 hP 0 rfl rfl 0 (by decide) (hts (.fieldLink RX1 9 "SledgeRace$Track" "starts" "[I") (by decide +kernel)) (fun _ h9 => h9) rfl dX1_groundAt_83 ?_
            refine lv_iload hx hb dX1_groundAt_86 (lv_at hl 0 rfl) ?_
            refine sp_iald hx hb hK.1 hP 1 0 rfl rfl (by omega) (by omega) dX1_groundAt_88 ?_
            refine lv_istore (lv' := [(5, .int (S i)), (7, .int (nI i)), (6, .int b), (4, .int (imax x 0)), (3, .ref k2), (0, .ref k0)]) hx hb dX1_groundAt_89 hl (by decide) rfl (fun ls hl => ?_)
            refine lv_aload_n hx hb dX1_groundAt_91 rfl (lv_at hl 4 rfl) ?_
            refine lv_iload hx hb dX1_groundAt_92 (lv_at hl 1 rfl) ?_
            refine sp_iald hx hb hK.1 hP 2 0 rfl rfl (by omega) (by omega) dX1_groundAt_94 ?_
            refine lv_istore (lv' := [(6, .int (U i)), (5, .int (S i)), (7, .int (nI i)), (4, .int (imax x 0)), (3, .ref k2), (0, .ref k0)]) hx hb dX1_groundAt_95 hl (by decide) rfl (fun ls hl => ?_)
            refine lv_iinc (v := nI (i + 1)) (lv' := [(7, .int (nI (i + 1))), (6, .int (U i)), (5, .int (S i)), (4, .int (imax x 0)), (3, .ref k2), (0, .ref k0)]) hx hb dX1_groundAt_97 hl (k := 2) rfl ((nI_1 i)) (by decide) rfl (fun ls hl => ?_)
            refine lv_goto (tgt := 32) hx hb dX1_groundAt_100 (by decide) ?_
            exact ih32 (i + 1) (S i) (U i) (by omega) (by omega) (by simp only [cGL, hab]; rw [if_pos ⟨c67, c79⟩]) ls (lv_sub hl [0, 1, 2, 3, 4, 5] rfl)
  exact loop32 _ 0 (-1) 0 (Nat.lt_succ_self _) (Nat.zero_le _) (rfl) ls (lv_sub hl [0, 1, 2, 3, 4, 5] rfl)

set_option maxHeartbeats 4000000 in
set_option maxRecDepth 100000 in
/-- the ground at a place: softness -/
theorem mX1_groundAt1 (l : Launch) (D : va_G) (cI cT : ClassId) (k0 k1 k2 k3 : Nat) (KF S U V : Nat → Int32) (x : Int32) (ns : Nat) (hns : ns ≤ 12) (hk : KF 3 = nI ns) : MetR l D cI cT yX1_groundAt wsX1_groundAt rmX1_groundAt [.ref k0, .int x, .int 1] [(k0, oK KF k1 k2 k3), (k1, aI cI 12 S), (k2, aI cI 12 U), (k3, aI cI 12 V)] (cGr S V ns x) := by
  refine Met.ofW (cc := cX1_groundAt) (maxL := 8) (ret := (some .int)) (by decide) rfl ?_
  intro p e s m args below meth c s₁ B hml hv
  obtain ⟨hargs, hP, hK⟩ := hv
  have hx := B.exec
  have hb := B.bytes
  have hr := B.returns
  have hts := atoms_spec (ws := wsX1_groundAt) B.pre
  have hown : s.vm.findClass RX1 = some m.cls := findClass_of_methodNamed B.named
  have hlocks := B.notSynchronized
  have hiX1 : ∀ w ∈ u_ws RX1 TX1 5, w ∈ wsX1_groundAt := by decide +kernel
  have he : entryFrame m args 8 = F0 m 0 ((lg_sl [.ref k0, .int x, .int 1] ++ List.replicate (8 - (lg_sl [.ref k0, .int x, .int 1]).length) Slot.unset).toArray) [] := by rw [hargs]; exact lg_entry_eq m _ _
  rw [he]
  change W p l e rmX1_groundAt s m args below meth c s.heap [] 0 0 (MQ below (QcRead (cGr S V ns x)) args s 0 0 (fun _ => False)) _
  obtain ⟨Q, hQ⟩ : ∃ Q, Q = MQ below (QcRead (cGr S V ns x)) args s 0 0 (fun _ => False) := ⟨_, rfl⟩
  rw [← hQ]
  have hl := lv_entry [.ref k0, .int x, .int 1] (n := 8) (Nat.le_of_ble_eq_true rfl)
  generalize (lg_sl [.ref k0, .int x, .int 1] ++ List.replicate (8 - (lg_sl [.ref k0, .int x, .int 1]).length) Slot.unset).toArray = ls at hl ⊢
  have hl : lv_has ls 8 [(0, .ref k0), (1, .int x), (2, .int 1)] := hl
  refine lv_iload_n hx hb dX1_groundAt_0 rfl (lv_at hl 2 rfl) ?_
  refine lv_if_eq (tgt := 11) hx hb dX1_groundAt_1 (by decide) (fun c1 => absurd c1 (by decide)) (fun _ => ?_)
  refine lv_aload_n hx hb dX1_groundAt_4 rfl (lv_at hl 0 rfl) ?_
  refine va_get (D := D) (ci := 1) (v := .ref k3) (C := RX1) (T := TX1) (N := 5) hx hb hts hiX1 hown hK.1 hP 0 rfl rfl 2 (by decide) (hts (.fieldLink RX1 16 "SledgeRace$Track" "softnesses" "[I") (by decide +kernel)) (fun _ h9 => h9) rfl dX1_groundAt_5 ?_
  refine lv_goto (tgt := 15) hx hb dX1_groundAt_8 (by decide) ?_
  refine lv_astore_n (lv' := [(3, .ref k3), (0, .ref k0), (1, .int x), (2, .int 1)]) hx hb dX1_groundAt_15 rfl hl (by decide) rfl (fun ls hl => ?_)
  refine lv_iload_n hx hb dX1_groundAt_16 rfl (lv_at hl 2 rfl) ?_
  refine lv_iconst (v := 0) hx hb dX1_groundAt_17 (by decide) ?_
  refine va_mmax hx hb (hml.trans hl.1.symm) hown (hts (.methodLink RX1 26 Lib.Math.max.name) (by decide +kernel)) (hts (.static Lib.Math.max.name) (by decide +kernel)) (hts (.initialized "java/lang/Math") (by decide +kernel)) (hts (.code Lib.Math.max.name Lib.Math.max.code 2 (some .int)) (by decide +kernel)) (Nat.le_of_ble_eq_true rfl) (Nat.le_of_ble_eq_true rfl) (Nat.le_of_ble_eq_true rfl) (Nat.le_of_ble_eq_true rfl) dX1_groundAt_18 ?_
  change W _ _ _ _ _ _ _ _ _ _ _ _ _ _ _ (F0 m 21 ls (.int (imax x 0) :: _))
  refine lv_istore (lv' := [(4, .int (imax x 0)), (3, .ref k3), (0, .ref k0), (1, .int x), (2, .int 1)]) hx hb dX1_groundAt_21 hl (by decide) rfl (fun ls hl => ?_)
  refine lv_iconst (v := (-1)) hx hb dX1_groundAt_23 (by decide) ?_
  refine lv_istore (lv' := [(5, .int (-1)), (4, .int (imax x 0)), (3, .ref k3), (0, .ref k0), (1, .int x), (2, .int 1)]) hx hb dX1_groundAt_24 hl (by decide) rfl (fun ls hl => ?_)
  refine lv_iconst (v := 0) hx hb dX1_groundAt_26 (by decide) ?_
  refine lv_istore (lv' := [(6, .int 0), (5, .int (-1)), (4, .int (imax x 0)), (3, .ref k3), (0, .ref k0), (1, .int x), (2, .int 1)]) hx hb dX1_groundAt_27 hl (by decide) rfl (fun ls hl => ?_)
  refine lv_iconst (v := nI 0) hx hb dX1_groundAt_29 (by decide) ?_
  refine lv_istore (lv' := [(7, .int (nI 0)), (6, .int 0), (5, .int (-1)), (4, .int (imax x 0)), (3, .ref k3), (0, .ref k0), (1, .int x), (2, .int 1)]) hx hb dX1_groundAt_30 hl (by decide) rfl (fun ls hl => ?_)
  have loop32 : ∀ (fu : Nat) (i : Nat) (a : Int32) (b : Int32), (ns - i) < fu → (i ≤ ns) → (cGL S V (imax x 0) i = (a, b)) → ∀ (ls : Array Slot), lv_has ls 8 [(7, .int (nI i)), (6, .int b), (5, .int a), (4, .int (imax x 0)), (3, .ref k3), (0, .ref k0)] → W p l e rmX1_groundAt s m args below meth c s.heap [] 0 0 Q (F0 m 32 ls []) := by
    intro fu
    induction fu with
    | zero => intro i a b hfu; exact absurd hfu (Nat.not_lt_zero _)
    | succ fu ih32 =>
      intro i a b hfu32 hi hab
      intro ls hl
      refine lv_iload hx hb dX1_groundAt_32 (lv_at hl 0 rfl) ?_
      refine lv_aload_n hx hb dX1_groundAt_34 rfl (lv_at hl 5 rfl) ?_
      refine va_get (D := D) (ci := 1) (v := .int (nI ns)) (C := RX1) (T := TX1) (N := 5) hx hb hts hiX1 hown hK.1 hP 0 rfl rfl 3 (by decide) (hts (.fieldLink RX1 19 "SledgeRace$Track" "stretches" "I") (by decide +kernel)) (fun _ h9 => h9) (congrArg (fun z => some (Value.int z)) hk) dX1_groundAt_35 ?_
      refine sp_ge (by omega) (by omega) (tgt := 103) hx hb dX1_groundAt_38 (by decide) (fun c38 => ?_) (fun c38 => ?_)
      · skip
        refine lv_iload hx hb dX1_groundAt_103 (lv_at hl 1 rfl) ?_
        refine sp_top (show b = cGr S V ns x from by unfold cGr; rw [← show i = ns from by omega, hab]) ?_
        subst hQ
        exact W.iret hx hb hr (fun t ht _ => ⟨rfl, ht⟩) (fun _ h => nomatch h) dX1_groundAt_105
      · skip
        refine lv_iload hx hb dX1_groundAt_41 (lv_at hl 0 rfl) ?_
        refine lv_aload_n hx hb dX1_groundAt_43 rfl (lv_at hl 5 rfl) ?_
        refine va_get (D := D) (ci := 1) (v := .ref k1) (C := RX1) (T := TX1) (N := 5) hx hb hts hiX1 hown hK.1 hP 0 rfl rfl 0 (by decide) (hts (.fieldLink RX1 9 "SledgeRace$Track" "starts" "[I") (by decide +kernel)) (fun _ h9 => h9) rfl dX1_groundAt_44 ?_
        refine va_alen hx hb hK.1 hP 1 0 rfl rfl (v := nI 12) rfl dX1_groundAt_47 ?_
        refine sp_ge (by omega) (by omega) (tgt := 103) hx hb dX1_groundAt_48 (by decide) (fun c48 => absurd c48 (by omega)) (fun _ => ?_)
        refine lv_iload hx hb dX1_groundAt_51 (lv_at hl 0 rfl) ?_
        refine lv_aload_n hx hb dX1_groundAt_53 rfl (lv_at hl 4 rfl) ?_
        refine va_alen hx hb hK.1 hP 3 0 rfl rfl (v := nI 12) rfl dX1_groundAt_54 ?_
        refine sp_ge (by omega) (by omega) (tgt := 103) hx hb dX1_groundAt_55 (by decide) (fun c55 => absurd c55 (by omega)) (fun _ => ?_)
        refine lv_aload_n hx hb dX1_groundAt_58 rfl (lv_at hl 5 rfl) ?_
        refine va_get (D := D) (ci := 1) (v := .ref k1) (C := RX1) (T := TX1) (N := 5) hx hb hts hiX1 hown hK.1 hP 0 rfl rfl 0 (by decide) (hts (.fieldLink RX1 9 "SledgeRace$Track" "starts" "[I") (by decide +kernel)) (fun _ h9 => h9) rfl dX1_groundAt_59 ?_
        refine lv_iload hx hb dX1_groundAt_62 (lv_at hl 0 rfl) ?_
        refine sp_iald hx hb hK.1 hP 1 0 rfl rfl (by omega) (by omega) dX1_groundAt_64 ?_
        refine lv_iload hx hb dX1_groundAt_65 (lv_at hl 3 rfl) ?_
        refine lv_icmp_gt (tgt := 97) hx hb dX1_groundAt_67 (by decide) (fun c67 => ?_) (fun c67 => ?_)
        · skip
          refine lv_iinc (v := nI (i + 1)) (lv' := [(7, .int (nI (i + 1))), (6, .int b), (5, .int a), (4, .int (imax x 0)), (3, .ref k3), (0, .ref k0)]) hx hb dX1_groundAt_97 hl (k := 0) rfl ((nI_1 i)) (by decide) rfl (fun ls hl => ?_)
          refine lv_goto (tgt := 32) hx hb dX1_groundAt_100 (by decide) ?_
          exact ih32 (i + 1) a b (by omega) (by omega) (by simp only [cGL, hab]; rw [if_neg (fun q => q.1 c67)]) ls (lv_sub hl [0, 1, 2, 3, 4, 5] rfl)
        · skip
          refine lv_aload_n hx hb dX1_groundAt_70 rfl (lv_at hl 5 rfl) ?_
          refine va_get (D := D) (ci := 1) (v := .ref k1) (C := RX1) (T := TX1) (N := 5) hx hb hts hiX1 hown hK.1 hP 0 rfl rfl 0 (by decide) (hts (.fieldLink RX1 9 "SledgeRace$Track" "starts" "[I") (by decide +kernel)) (fun _ h9 => h9) rfl dX1_groundAt_71 ?_
          refine lv_iload hx hb dX1_groundAt_74 (lv_at hl 0 rfl) ?_
          refine sp_iald hx hb hK.1 hP 1 0 rfl rfl (by omega) (by omega) dX1_groundAt_76 ?_
          refine lv_iload hx hb dX1_groundAt_77 (lv_at hl 2 rfl) ?_
          refine lx_icmp_le (tgt := 97) hx hb dX1_groundAt_79 (by decide) (fun c79 => ?_) (fun c79 => ?_)
          · skip
            refine lv_iinc (v := nI (i + 1)) (lv' := [(7, .int (nI (i + 1))), (6, .int b), (5, .int a), (4, .int (imax x 0)), (3, .ref k3), (0, .ref k0)]) hx hb dX1_groundAt_97 hl (k := 0) rfl ((nI_1 i)) (by decide) rfl (fun ls hl => ?_)
            refine lv_goto (tgt := 32) hx hb dX1_groundAt_100 (by decide) ?_
            exact ih32 (i + 1) a b (by omega) (by omega) (by simp only [cGL, hab]; rw [if_neg (fun q => c79 q.2)]) ls (lv_sub hl [0, 1, 2, 3, 4, 5] rfl)
          · skip
            refine lv_aload_n hx hb dX1_groundAt_82 rfl (lv_at hl 5 rfl) ?_
            refine va_get (D := D) (ci := 1) (v := .ref k1) (C := RX1) (T := TX1) (N := 5) hx hb hts hiX1 hown hK.1 hP 0 rfl rfl 0 (by decide) (hts (.fieldLink RX1 9 "SledgeRace$Track" "starts" "[I") (by decide +kernel)) (fun _ h9 => h9) rfl dX1_groundAt_83 ?_
            refine lv_iload hx hb dX1_groundAt_86 (lv_at hl 0 rfl) ?_
            refine sp_iald hx hb hK.1 hP 1 0 rfl rfl (by omega) (by omega) dX1_groundAt_88 ?_
            refine lv_istore (lv' := [(5, .int (S i)), (7, .int (nI i)), (6, .int b), (4, .int (imax x 0)), (3, .ref k3), (0, .ref k0)]) hx hb dX1_groundAt_89 hl (by decide) rfl (fun ls hl => ?_)
            refine lv_aload_n hx hb dX1_groundAt_91 rfl (lv_at hl 4 rfl) ?_
            refine lv_iload hx hb dX1_groundAt_92 (lv_at hl 1 rfl) ?_
            refine sp_iald hx hb hK.1 hP 3 0 rfl rfl (by omega) (by omega) dX1_groundAt_94 ?_
            refine lv_istore (lv' := [(6, .int (V i)), (5, .int (S i)), (7, .int (nI i)), (4, .int (imax x 0)), (3, .ref k3), (0, .ref k0)]) hx hb dX1_groundAt_95 hl (by decide) rfl (fun ls hl => ?_)
            refine lv_iinc (v := nI (i + 1)) (lv' := [(7, .int (nI (i + 1))), (6, .int (V i)), (5, .int (S i)), (4, .int (imax x 0)), (3, .ref k3), (0, .ref k0)]) hx hb dX1_groundAt_97 hl (k := 2) rfl ((nI_1 i)) (by decide) rfl (fun ls hl => ?_)
            refine lv_goto (tgt := 32) hx hb dX1_groundAt_100 (by decide) ?_
            exact ih32 (i + 1) (S i) (V i) (by omega) (by omega) (by simp only [cGL, hab]; rw [if_pos ⟨c67, c79⟩]) ls (lv_sub hl [0, 1, 2, 3, 4, 5] rfl)
  exact loop32 _ 0 (-1) 0 (Nat.lt_succ_self _) (Nat.zero_le _) (rfl) ls (lv_sub hl [0, 1, 2, 3, 4, 5] rfl)

abbrev rmX1_putStretch : Room := { frames := 0, cells := 0, slots := 0, locals := 0 }
set_option maxHeartbeats 4000000 in
set_option maxRecDepth 100000 in
/-- a stretch is put -/
theorem mX1_putStretch (l : Launch) (D : va_G) (cI cT : ClassId) (k0 k1 k2 k3 : Nat) (KF S U V : Nat → Int32) (x a b : Int32) (ns : Nat) (hns : ns ≤ 12) (hk : KF 3 = nI ns) : MetI l D cI cT yX1_putStretch wsX1_putStretch rmX1_putStretch [.ref k0, .int x, .int a, .int b] [(k0, oK KF k1 k2 k3), (k1, aI cI 12 S), (k2, aI cI 12 U), (k3, aI cI 12 V)] [] [(k0, oK (cPutK S ns x KF) k1 k2 k3), (k1, aI cI 12 (cPut S ns x S x)), (k2, aI cI 12 (cPut S ns x U a)), (k3, aI cI 12 (cPut S ns x V b))] (bI (decide (fnd S x ns < 12))) := by
  refine Met.ofW (cc := cX1_putStretch) (maxL := 5) (ret := (some .boolean)) (by decide) rfl ?_
  intro p e s m args below meth c s₁ B hml hv
  obtain ⟨hargs, hP, hR0, hK, hN⟩ := hv
  have hx := B.exec
  have hb := B.bytes
  have hr := B.returns
  have hts := atoms_spec (ws := wsX1_putStretch) B.pre
  have hown : s.vm.findClass RX1 = some m.cls := findClass_of_methodNamed B.named
  have hlocks := B.notSynchronized
  have hiX1 : ∀ w ∈ u_ws RX1 TX1 5, w ∈ wsX1_putStretch := by decide +kernel
  have he : entryFrame m args 5 = F0 m 0 ((lg_sl [.ref k0, .int x, .int a, .int b] ++ List.replicate (5 - (lg_sl [.ref k0, .int x, .int a, .int b]).length) Slot.unset).toArray) [] := by rw [hargs]; exact lg_entry_eq m _ _
  rw [he]
  change W p l e rmX1_putStretch s m args below meth c s.heap [] 0 0 (MQ below (va_Qi (S := Unit) (fun z _ => z = bI (decide (fnd S x ns < 12))) (fun _ t => va_P D vwCl [(k0, oK (cPutK S ns x KF) k1 k2 k3), (k1, aI cI 12 (cPut S ns x S x)), (k2, aI cI 12 (cPut S ns x U a)), (k3, aI cI 12 (cPut S ns x V b))] t.heap) (fr (List.map Prod.fst [(k0, oK KF k1 k2 k3), (k1, aI cI 12 S), (k2, aI cI 12 U), (k3, aI cI 12 V)]))) args s 0 0 (fr (List.map Prod.fst [(k0, oK KF k1 k2 k3), (k1, aI cI 12 S), (k2, aI cI 12 U), (k3, aI cI 12 V)]))) _
  obtain ⟨Q, hQ⟩ : ∃ Q, Q = MQ below (va_Qi (S := Unit) (fun z _ => z = bI (decide (fnd S x ns < 12))) (fun _ t => va_P D vwCl [(k0, oK (cPutK S ns x KF) k1 k2 k3), (k1, aI cI 12 (cPut S ns x S x)), (k2, aI cI 12 (cPut S ns x U a)), (k3, aI cI 12 (cPut S ns x V b))] t.heap) (fr (List.map Prod.fst [(k0, oK KF k1 k2 k3), (k1, aI cI 12 S), (k2, aI cI 12 U), (k3, aI cI 12 V)]))) args s 0 0 (fr (List.map Prod.fst [(k0, oK KF k1 k2 k3), (k1, aI cI 12 S), (k2, aI cI 12 U), (k3, aI cI 12 V)])) := ⟨_, rfl⟩
  rw [← hQ]
  have hl := lv_entry [.ref k0, .int x, .int a, .int b] (n := 5) (Nat.le_of_ble_eq_true rfl)
  generalize (lg_sl [.ref k0, .int x, .int a, .int b] ++ List.replicate (5 - (lg_sl [.ref k0, .int x, .int a, .int b]).length) Slot.unset).toArray = ls at hl ⊢
  have hl : lv_has ls 5 [(0, .ref k0), (1, .int x), (2, .int a), (3, .int b)] := hl
  obtain ⟨A, hAe⟩ : ∃ A, A = (fr (List.map Prod.fst [(k0, oK KF k1 k2 k3), (k1, aI cI 12 S), (k2, aI cI 12 U), (k3, aI cI 12 V)])) := ⟨_, rfl⟩
  have hA0 : ∀ q ∈ List.map Prod.fst [(k0, oK KF k1 k2 k3), (k1, aI cI 12 S), (k2, aI cI 12 U), (k3, aI cI 12 V)], A q := by rw [hAe]; exact fun q h => h
  have hD : va_D A [(k0, oK KF k1 k2 k3), (k1, aI cI 12 S), (k2, aI cI 12 U), (k3, aI cI 12 V)] := sp_D (List.nodup_append.mp (show (([(k0, oK KF k1 k2 k3), (k1, aI cI 12 S), (k2, aI cI 12 U), (k3, aI cI 12 V)] : va_W).map Prod.fst ++ ([] : va_W).map Prod.fst).Nodup by rw [← List.map_append]; exact hN)).1 hA0
  have hN : (List.map Prod.fst ([(k0, oK KF k1 k2 k3), (k1, aI cI 12 S), (k2, aI cI 12 U), (k3, aI cI 12 V)] ++ []) : List Nat).Nodup := hN
  have hS : va_S A s.heap s.heap [] := va_S.rf
  have join36 : ∀ (i : Nat), (i = fnd S x ns) → (i ≤ ns) → ∀ (H : Heap) (locs : List Loc), va_P D vwCl [(k0, oK KF k1 k2 k3), (k1, aI cI 12 S), (k2, aI cI 12 U), (k3, aI cI 12 V)] H → va_D A [(k0, oK KF k1 k2 k3), (k1, aI cI 12 S), (k2, aI cI 12 U), (k3, aI cI 12 V)] → va_S A s.heap H locs → ∀ (ls : Array Slot), lv_has ls 5 [(4, .int (nI i)), (0, .ref k0), (1, .int x), (2, .int a), (3, .int b)] → W p l e rmX1_putStretch s m args below meth c H locs 0 0 Q (F0 m 36 ls []) := by
    intro i ei hi2 H locs hP hD hS ls hl
    refine lv_iload hx hb dX1_putStretch_36 (lv_at hl 0 rfl) ?_
    refine lv_bipush (v := nI 12) hx hb dX1_putStretch_38 (by decide) ?_
    refine sp_lt (by omega) (by omega) (tgt := 45) hx hb dX1_putStretch_40 (by decide) (fun c40 => ?_) (fun c40 => ?_)
    · skip
      refine lv_aload_n hx hb dX1_putStretch_45 rfl (lv_at hl 1 rfl) ?_
      refine va_get (D := D) (ci := 1) (v := .ref k1) (C := RX1) (T := TX1) (N := 5) hx hb hts hiX1 hown hK.1 hP 0 rfl rfl 0 (by decide) (hts (.fieldLink RX1 9 "SledgeRace$Track" "starts" "[I") (by decide +kernel)) (fun _ h9 => h9) rfl dX1_putStretch_46 ?_
      refine lv_iload hx hb dX1_putStretch_49 (lv_at hl 0 rfl) ?_
      refine lv_iload_n hx hb dX1_putStretch_51 rfl (lv_at hl 2 rfl) ?_
      refine sp_iast hx hb hK.1 hP hD hS 1 0 rfl rfl (by omega) (by omega) dX1_putStretch_52 (fun H locs hP hD hS => ?_)
      have hP : va_P D vwCl [(k0, oK KF k1 k2 k3), (k1, aI cI 12 (upd S i x)), (k2, aI cI 12 U), (k3, aI cI 12 V)] H := hP
      have hD : va_D A [(k0, oK KF k1 k2 k3), (k1, aI cI 12 (upd S i x)), (k2, aI cI 12 U), (k3, aI cI 12 V)] := hD
      refine lv_aload_n hx hb dX1_putStretch_53 rfl (lv_at hl 1 rfl) ?_
      refine va_get (D := D) (ci := 1) (v := .ref k2) (C := RX1) (T := TX1) (N := 5) hx hb hts hiX1 hown hK.1 hP 0 rfl rfl 1 (by decide) (hts (.fieldLink RX1 13 "SledgeRace$Track" "slopes" "[I") (by decide +kernel)) (fun _ h9 => h9) rfl dX1_putStretch_54 ?_
      refine lv_iload hx hb dX1_putStretch_57 (lv_at hl 0 rfl) ?_
      refine lv_iload_n hx hb dX1_putStretch_59 rfl (lv_at hl 3 rfl) ?_
      refine sp_iast hx hb hK.1 hP hD hS 2 0 rfl rfl (by omega) (by omega) dX1_putStretch_60 (fun H locs hP hD hS => ?_)
      have hP : va_P D vwCl [(k0, oK KF k1 k2 k3), (k1, aI cI 12 (upd S i x)), (k2, aI cI 12 (upd U i a)), (k3, aI cI 12 V)] H := hP
      have hD : va_D A [(k0, oK KF k1 k2 k3), (k1, aI cI 12 (upd S i x)), (k2, aI cI 12 (upd U i a)), (k3, aI cI 12 V)] := hD
      refine lv_aload_n hx hb dX1_putStretch_61 rfl (lv_at hl 1 rfl) ?_
      refine va_get (D := D) (ci := 1) (v := .ref k3) (C := RX1) (T := TX1) (N := 5) hx hb hts hiX1 hown hK.1 hP 0 rfl rfl 2 (by decide) (hts (.fieldLink RX1 16 "SledgeRace$Track" "softnesses" "[I") (by decide +kernel)) (fun _ h9 => h9) rfl dX1_putStretch_62 ?_
      refine lv_iload hx hb dX1_putStretch_65 (lv_at hl 0 rfl) ?_
      refine lv_iload_n hx hb dX1_putStretch_67 rfl (lv_at hl 4 rfl) ?_
      refine sp_iast hx hb hK.1 hP hD hS 3 0 rfl rfl (by omega) (by omega) dX1_putStretch_68 (fun H locs hP hD hS => ?_)
      have hP : va_P D vwCl [(k0, oK KF k1 k2 k3), (k1, aI cI 12 (upd S i x)), (k2, aI cI 12 (upd U i a)), (k3, aI cI 12 (upd V i b))] H := hP
      have hD : va_D A [(k0, oK KF k1 k2 k3), (k1, aI cI 12 (upd S i x)), (k2, aI cI 12 (upd U i a)), (k3, aI cI 12 (upd V i b))] := hD
      refine lv_iload hx hb dX1_putStretch_69 (lv_at hl 0 rfl) ?_
      refine lv_aload_n hx hb dX1_putStretch_71 rfl (lv_at hl 1 rfl) ?_
      refine va_get (D := D) (ci := 1) (v := .int (nI ns)) (C := RX1) (T := TX1) (N := 5) hx hb hts hiX1 hown hK.1 hP 0 rfl rfl 3 (by decide) (hts (.fieldLink RX1 19 "SledgeRace$Track" "stretches" "I") (by decide +kernel)) (fun _ h9 => h9) (congrArg (fun z => some (Value.int z)) hk) dX1_putStretch_72 ?_
      refine sp_ne (by omega) (by omega) (tgt := 88) hx hb dX1_putStretch_75 (by decide) (fun c75 => ?_) (fun c75 => ?_)
      · skip
        refine lv_iconst (v := 1) hx hb dX1_putStretch_88 (by decide) ?_
        refine sp_top (show 1 = bI (decide (fnd S x ns < 12)) from by rw [← ei, decide_eq_true c40]; rfl) ?_
        subst hQ
        have hP9 : va_P D vwCl [(k0, oK (cPutK S ns x KF) k1 k2 k3), (k1, aI cI 12 (cPut S ns x S x)), (k2, aI cI 12 (cPut S ns x U a)), (k3, aI cI 12 (cPut S ns x V b))] H := by unfold cPut cPutK; rw [← ei]; simp only [if_pos c40, if_neg (fun q : i < 12 ∧ i = ns => c75 q.2)]; exact hP
        subst hAe
        exact W.zret hx hb hr (bI_nar _) (fun t ht hW => ⟨⟨_, (), rfl, rfl, by show va_P D vwCl _ t.heap; rw [ht]; exact hP9⟩, hS.F ht⟩) hS.2.2 dX1_putStretch_89
      · skip
        refine lv_aload_n hx hb dX1_putStretch_78 rfl (lv_at hl 1 rfl) ?_
        refine lv_dup hx hb dX1_putStretch_79 rfl ?_
        refine va_get (D := D) (ci := 1) (v := .int (nI ns)) (C := RX1) (T := TX1) (N := 5) hx hb hts hiX1 hown hK.1 hP 0 rfl rfl 3 (by decide) (hts (.fieldLink RX1 19 "SledgeRace$Track" "stretches" "I") (by decide +kernel)) (fun _ h9 => h9) (congrArg (fun z => some (Value.int z)) hk) dX1_putStretch_80 ?_
        refine lv_iconst (v := 1) hx hb dX1_putStretch_83 (by decide) ?_
        refine lv_iadd hx hb dX1_putStretch_84 ?_
        refine sp_top (nI_1 ns : (nI ns) + 1 = nI (ns + 1)) ?_
        refine va_put (D := D) (ci := 1) (v := .int (nI (ns + 1))) (ty := .int) (C := RX1) (T := TX1) (N := 5) hx hb hts hiX1 tyX1 tyX1_ok nmX1 hown hK.1 hP hD hS 0 rfl rfl 3 (by decide) (hts (.fieldLink RX1 19 "SledgeRace$Track" "stretches" "I") (by decide +kernel)) (fun _ h9 => h9) rfl (by decide +kernel) rfl rfl (Nat.le_of_ble_eq_true rfl) dX1_putStretch_85 (fun H locs hP hD hS => ?_)
        have hP : va_P D vwCl [(k0, oK (upd KF 3 (nI (ns + 1))) k1 k2 k3), (k1, aI cI 12 (upd S i x)), (k2, aI cI 12 (upd U i a)), (k3, aI cI 12 (upd V i b))] H := hP
        have hD : va_D A [(k0, oK (upd KF 3 (nI (ns + 1))) k1 k2 k3), (k1, aI cI 12 (upd S i x)), (k2, aI cI 12 (upd U i a)), (k3, aI cI 12 (upd V i b))] := hD
        refine lv_iconst (v := 1) hx hb dX1_putStretch_88 (by decide) ?_
        refine sp_top (show 1 = bI (decide (fnd S x ns < 12)) from by rw [← ei, decide_eq_true c40]; rfl) ?_
        subst hQ
        have hP9 : va_P D vwCl [(k0, oK (cPutK S ns x KF) k1 k2 k3), (k1, aI cI 12 (cPut S ns x S x)), (k2, aI cI 12 (cPut S ns x U a)), (k3, aI cI 12 (cPut S ns x V b))] H := by unfold cPut cPutK; rw [← ei]; simp only [if_pos c40, if_pos (⟨c40, c75⟩ : i < 12 ∧ i = ns)]; exact hP
        subst hAe
        exact W.zret hx hb hr (bI_nar _) (fun t ht hW => ⟨⟨_, (), rfl, rfl, by show va_P D vwCl _ t.heap; rw [ht]; exact hP9⟩, hS.F ht⟩) hS.2.2 dX1_putStretch_89
    · skip
      refine lv_iconst (v := 0) hx hb dX1_putStretch_43 (by decide) ?_
      refine sp_top (show 0 = bI (decide (fnd S x ns < 12)) from by rw [← ei, decide_eq_false (Nat.not_lt.mpr c40)]; rfl) ?_
      subst hQ
      have hP9 : va_P D vwCl [(k0, oK (cPutK S ns x KF) k1 k2 k3), (k1, aI cI 12 (cPut S ns x S x)), (k2, aI cI 12 (cPut S ns x U a)), (k3, aI cI 12 (cPut S ns x V b))] H := by unfold cPut cPutK; rw [← ei]; simp only [if_neg (Nat.not_lt.mpr c40), if_neg (fun q : i < 12 ∧ i = ns => absurd q.1 (Nat.not_lt.mpr c40))]; exact hP
      subst hAe
      exact W.zret hx hb hr (bI_nar _) (fun t ht hW => ⟨⟨_, (), rfl, rfl, by show va_P D vwCl _ t.heap; rw [ht]; exact hP9⟩, hS.F ht⟩) hS.2.2 dX1_putStretch_44
  obtain ⟨H, hH0⟩ : ∃ H, H = s.heap := ⟨_, rfl⟩
  obtain ⟨locs, hlo⟩ : ∃ L : List Loc, L = [] := ⟨_, rfl⟩
  have hP : va_P D vwCl [(k0, oK KF k1 k2 k3), (k1, aI cI 12 S), (k2, aI cI 12 U), (k3, aI cI 12 V)] H := by rw [hH0]; exact hP
  have hS : va_S A s.heap H locs := by rw [hH0, hlo]; exact hS
  rw [show W p l e rmX1_putStretch s m args below meth c s.heap [] 0 0 Q (F0 m 0 ls []) = W p l e rmX1_putStretch s m args below meth c H locs 0 0 Q (F0 m 0 ls []) by rw [hH0, hlo]]
  clear hH0 hlo
  refine lv_iconst (v := nI 0) hx hb dX1_putStretch_0 (by decide) ?_
  refine lv_istore (lv' := [(4, .int (nI 0)), (0, .ref k0), (1, .int x), (2, .int a), (3, .int b)]) hx hb dX1_putStretch_1 hl (by decide) rfl (fun ls hl => ?_)
  have loop3 : ∀ (fu : Nat) (i : Nat), (ns - i) < fu → (i ≤ ns) → (∀ j, j < i → ¬ S j = x) → ∀ (H : Heap) (locs : List Loc), va_P D vwCl [(k0, oK KF k1 k2 k3), (k1, aI cI 12 S), (k2, aI cI 12 U), (k3, aI cI 12 V)] H → va_D A [(k0, oK KF k1 k2 k3), (k1, aI cI 12 S), (k2, aI cI 12 U), (k3, aI cI 12 V)] → va_S A s.heap H locs → ∀ (ls : Array Slot), lv_has ls 5 [(4, .int (nI i)), (0, .ref k0), (1, .int x), (2, .int a), (3, .int b)] → W p l e rmX1_putStretch s m args below meth c H locs 0 0 Q (F0 m 3 ls []) := by
    intro fu
    induction fu with
    | zero => intro i hfu; exact absurd hfu (Nat.not_lt_zero _)
    | succ fu ih3 =>
      intro i hfu3 hi hno
      intro H locs hP hD hS ls hl
      refine lv_iload hx hb dX1_putStretch_3 (lv_at hl 0 rfl) ?_
      refine lv_aload_n hx hb dX1_putStretch_5 rfl (lv_at hl 1 rfl) ?_
      refine va_get (D := D) (ci := 1) (v := .int (nI ns)) (C := RX1) (T := TX1) (N := 5) hx hb hts hiX1 hown hK.1 hP 0 rfl rfl 3 (by decide) (hts (.fieldLink RX1 19 "SledgeRace$Track" "stretches" "I") (by decide +kernel)) (fun _ h9 => h9) (congrArg (fun z => some (Value.int z)) hk) dX1_putStretch_6 ?_
      refine sp_ge (by omega) (by omega) (tgt := 36) hx hb dX1_putStretch_9 (by decide) (fun c9 => ?_) (fun c9 => ?_)
      · skip
        exact join36 i (fnd_eq hi hno (Or.inl (by omega))) (hi) _ _ hP hD hS ls (lv_sub hl [0, 1, 2, 3, 4] rfl)
      · skip
        refine lv_iload hx hb dX1_putStretch_12 (lv_at hl 0 rfl) ?_
        refine lv_bipush (v := nI 12) hx hb dX1_putStretch_14 (by decide) ?_
        refine sp_ge (by omega) (by omega) (tgt := 36) hx hb dX1_putStretch_16 (by decide) (fun c16 => absurd c16 (by omega)) (fun _ => ?_)
        refine lv_aload_n hx hb dX1_putStretch_19 rfl (lv_at hl 1 rfl) ?_
        refine va_get (D := D) (ci := 1) (v := .ref k1) (C := RX1) (T := TX1) (N := 5) hx hb hts hiX1 hown hK.1 hP 0 rfl rfl 0 (by decide) (hts (.fieldLink RX1 9 "SledgeRace$Track" "starts" "[I") (by decide +kernel)) (fun _ h9 => h9) rfl dX1_putStretch_20 ?_
        refine lv_iload hx hb dX1_putStretch_23 (lv_at hl 0 rfl) ?_
        refine sp_iald hx hb hK.1 hP 1 0 rfl rfl (by omega) (by omega) dX1_putStretch_25 ?_
        refine lv_iload_n hx hb dX1_putStretch_26 rfl (lv_at hl 2 rfl) ?_
        refine lv_icmp_eq (tgt := 36) hx hb dX1_putStretch_27 (by decide) (fun c27 => ?_) (fun c27 => ?_)
        · skip
          exact join36 i (fnd_eq hi hno (Or.inr c27)) (hi) _ _ hP hD hS ls (lv_sub hl [0, 1, 2, 3, 4] rfl)
        · skip
          refine lv_iinc (v := nI (i + 1)) (lv' := [(4, .int (nI (i + 1))), (0, .ref k0), (1, .int x), (2, .int a), (3, .int b)]) hx hb dX1_putStretch_30 hl (k := 0) rfl ((nI_1 i)) (by decide) rfl (fun ls hl => ?_)
          refine lv_goto (tgt := 3) hx hb dX1_putStretch_33 (by decide) ?_
          exact ih3 (i + 1) (by omega) (by omega) (lt_s hno c27) _ _ hP hD hS ls (lv_sub hl [0, 1, 2, 3, 4] rfl)
  exact loop3 _ 0 (Nat.lt_succ_self _) (Nat.zero_le _) (fun j hj => absurd hj (Nat.not_lt_zero j)) _ _ hP hD hS ls (lv_sub hl [0, 1, 2, 3, 4] rfl)

abbrev rmX0_drag : Room := { frames := 2, cells := 0, slots := 0, locals := 44 }
set_option maxHeartbeats 4000000 in
set_option maxRecDepth 100000 in
/-- the drag -/
theorem mX0_drag (l : Launch) (D : va_G) (cI cT : ClassId) (a0 a1 a2 a3 : Nat) (F P : Nat → Int32) (n : Nat) (hn : n ≤ 8) (h3 : F 3 = nI n) (k0 k1 k2 k3 : Nat) (KF S U V : Nat → Int32) (ns : Nat) (hns : ns ≤ 12) (hk : KF 3 = nI ns) : MetR l D cI cT yX0_drag wsX0_drag rmX0_drag [.ref a0, .ref k0] [(a0, oT F a1 a2 a3), (a1, aI cI 8 P), (k0, oK KF k1 k2 k3), (k1, aI cI 12 S), (k2, aI cI 12 U), (k3, aI cI 12 V)] (cDrag F P n (cGr S U ns (F 10)) (cGr S V ns (F 10))) := by
  refine Met.ofW (cc := cX0_drag) (maxL := 8) (ret := (some .int)) (by decide) rfl ?_
  intro p e s m args below meth c s₁ B hml hv
  obtain ⟨hargs, hP, hK⟩ := hv
  have hx := B.exec
  have hb := B.bytes
  have hr := B.returns
  have hts := atoms_spec (ws := wsX0_drag) B.pre
  have hown : s.vm.findClass RX0 = some m.cls := findClass_of_methodNamed B.named
  have hlocks := B.notSynchronized
  have hiX0 : ∀ w ∈ u_ws RX0 TX0 20, w ∈ wsX0_drag := by decide +kernel
  have he : entryFrame m args 8 = F0 m 0 ((lg_sl [.ref a0, .ref k0] ++ List.replicate (8 - (lg_sl [.ref a0, .ref k0]).length) Slot.unset).toArray) [] := by rw [hargs]; exact lg_entry_eq m _ _
  rw [he]
  change W p l e rmX0_drag s m args below meth c s.heap [] 0 0 (MQ below (QcRead (cDrag F P n (cGr S U ns (F 10)) (cGr S V ns (F 10)))) args s 0 0 (fun _ => False)) _
  obtain ⟨Q, hQ⟩ : ∃ Q, Q = MQ below (QcRead (cDrag F P n (cGr S U ns (F 10)) (cGr S V ns (F 10)))) args s 0 0 (fun _ => False) := ⟨_, rfl⟩
  rw [← hQ]
  have hl := lv_entry [.ref a0, .ref k0] (n := 8) (Nat.le_of_ble_eq_true rfl)
  generalize (lg_sl [.ref a0, .ref k0] ++ List.replicate (8 - (lg_sl [.ref a0, .ref k0]).length) Slot.unset).toArray = ls at hl ⊢
  have hl : lv_has ls 8 [(0, .ref a0), (1, .ref k0)] := hl
  refine lv_aload_n hx hb dX0_drag_0 rfl (lv_at hl 1 rfl) ?_
  refine lv_aload_n hx hb dX0_drag_1 rfl (lv_at hl 0 rfl) ?_
  refine va_get (D := D) (ci := 0) (v := .int (F 10)) (C := RX0) (T := TX0) (N := 20) hx hb hts hiX0 hown hK.1 hP 0 rfl rfl 10 (by decide) (hts (.fieldLink RX0 53 "SledgeRace$Team" "front" "I") (by decide +kernel)) (fun _ h9 => h9) rfl dX0_drag_2 ?_
  refine lv_iconst (v := 0) hx hb dX0_drag_5 (by decide) ?_
  refine sp_rV (rest := []) (As := [.int (F 10), .int 0]) ⟨hx, hb, hml, hown, hts⟩ (mX1_groundAt0 l D cI cT k0 k1 k2 k3 KF S U V (F 10)  ns hns hk) (cwV 2 hts gX0_drag_X1_groundAt rfl rfl rfl (by decide +kernel) ⟨Nat.le_of_ble_eq_true rfl, Nat.le_of_ble_eq_true rfl⟩) hK (sp_pick hP [2, 3, 4, 5] rfl) (ci := 1) rfl rfl rfl rfl hl.1 rfl (Nat.le_of_ble_eq_true rfl) dX0_drag_6 ⟨Nat.le_of_ble_eq_true rfl, Nat.le_of_ble_eq_true rfl⟩ ?_
  refine lv_istore_n (lv' := [(2, .int (cGr S U ns (F 10))), (0, .ref a0), (1, .ref k0)]) hx hb dX0_drag_9 rfl hl (by decide) rfl (fun ls hl => ?_)
  refine lv_aload_n hx hb dX0_drag_10 rfl (lv_at hl 2 rfl) ?_
  refine lv_aload_n hx hb dX0_drag_11 rfl (lv_at hl 1 rfl) ?_
  refine va_get (D := D) (ci := 0) (v := .int (F 10)) (C := RX0) (T := TX0) (N := 20) hx hb hts hiX0 hown hK.1 hP 0 rfl rfl 10 (by decide) (hts (.fieldLink RX0 53 "SledgeRace$Team" "front" "I") (by decide +kernel)) (fun _ h9 => h9) rfl dX0_drag_12 ?_
  refine lv_iconst (v := 1) hx hb dX0_drag_15 (by decide) ?_
  refine sp_rV (rest := []) (As := [.int (F 10), .int 1]) ⟨hx, hb, hml, hown, hts⟩ (mX1_groundAt1 l D cI cT k0 k1 k2 k3 KF S U V (F 10)  ns hns hk) (cwV 2 hts gX0_drag_X1_groundAt rfl rfl rfl (by decide +kernel) ⟨Nat.le_of_ble_eq_true rfl, Nat.le_of_ble_eq_true rfl⟩) hK (sp_pick hP [2, 3, 4, 5] rfl) (ci := 1) rfl rfl rfl rfl hl.1 rfl (Nat.le_of_ble_eq_true rfl) dX0_drag_16 ⟨Nat.le_of_ble_eq_true rfl, Nat.le_of_ble_eq_true rfl⟩ ?_
  refine lv_istore_n (lv' := [(3, .int (cGr S V ns (F 10))), (2, .int (cGr S U ns (F 10))), (0, .ref a0), (1, .ref k0)]) hx hb dX0_drag_19 rfl hl (by decide) rfl (fun ls hl => ?_)
  refine lv_iconst (v := 0) hx hb dX0_drag_20 (by decide) ?_
  refine lv_aload_n hx hb dX0_drag_21 rfl (lv_at hl 2 rfl) ?_
  refine va_get (D := D) (ci := 0) (v := .int (F 2)) (C := RX0) (T := TX0) (N := 20) hx hb hts hiX0 hown hK.1 hP 0 rfl rfl 2 (by decide) (hts (.fieldLink RX0 16 "SledgeRace$Team" "weight" "I") (by decide +kernel)) (fun _ h9 => h9) rfl dX0_drag_22 ?_
  refine lv_bipush (v := 20) hx hb dX0_drag_25 (by decide) ?_
  refine lv_bipush (v := 10) hx hb dX0_drag_27 (by decide) ?_
  refine lv_iload_n hx hb dX0_drag_29 rfl (lv_at hl 1 rfl) ?_
  refine lv_imul hx hb dX0_drag_30 ?_
  refine lv_iadd hx hb dX0_drag_31 ?_
  refine lv_iconst (v := 4) hx hb dX0_drag_32 (by decide) ?_
  refine lv_iload_n hx hb dX0_drag_33 rfl (lv_at hl 0 rfl) ?_
  refine lv_imul hx hb dX0_drag_34 ?_
  refine lv_iadd hx hb dX0_drag_35 ?_
  refine lv_imul hx hb dX0_drag_36 ?_
  refine lv_bipush (v := 10) hx hb dX0_drag_37 (by decide) ?_
  refine lv_idiv hx hb dX0_drag_39 (by decide) ?_
  refine va_mmax hx hb (hml.trans hl.1.symm) hown (hts (.methodLink RX0 110 Lib.Math.max.name) (by decide +kernel)) (hts (.static Lib.Math.max.name) (by decide +kernel)) (hts (.initialized "java/lang/Math") (by decide +kernel)) (hts (.code Lib.Math.max.name Lib.Math.max.code 2 (some .int)) (by decide +kernel)) (Nat.le_of_ble_eq_true rfl) (Nat.le_of_ble_eq_true rfl) (Nat.le_of_ble_eq_true rfl) (Nat.le_of_ble_eq_true rfl) dX0_drag_40 ?_
  change W _ _ _ _ _ _ _ _ _ _ _ _ _ _ _ (F0 m 43 ls (.int (imax 0 (((F 2) * ((20 + (10 * (cGr S U ns (F 10)))) + (4 * (cGr S V ns (F 10))))) / 10)) :: _))
  refine lv_istore (lv' := [(4, .int (imax 0 (((F 2) * ((20 + (10 * (cGr S U ns (F 10)))) + (4 * (cGr S V ns (F 10))))) / 10))), (3, .int (cGr S V ns (F 10))), (2, .int (cGr S U ns (F 10))), (0, .ref a0), (1, .ref k0)]) hx hb dX0_drag_43 hl (by decide) rfl (fun ls hl => ?_)
  refine lv_aload_n hx hb dX0_drag_45 rfl (lv_at hl 3 rfl) ?_
  refine lv_iconst (v := 0) hx hb dX0_drag_46 (by decide) ?_
  refine sp_rV (rest := []) (As := [.int 0]) ⟨hx, hb, hml, hown, hts⟩ (mX0_rollersLying l D cI cT a0 a1 a2 a3 F P 0 n hn h3) (cwV 1 hts gX0_drag_X0_rollersLying rfl rfl rfl (by decide +kernel) ⟨Nat.le_of_ble_eq_true rfl, Nat.le_of_ble_eq_true rfl⟩) hK (sp_pick hP [0, 1] rfl) (ci := 0) rfl rfl rfl rfl hl.1 rfl (Nat.le_of_ble_eq_true rfl) dX0_drag_47 ⟨Nat.le_of_ble_eq_true rfl, Nat.le_of_ble_eq_true rfl⟩ ?_
  refine lv_istore (lv' := [(5, .int (nI (cLie F P n 0))), (4, .int (imax 0 (((F 2) * ((20 + (10 * (cGr S U ns (F 10)))) + (4 * (cGr S V ns (F 10))))) / 10))), (3, .int (cGr S V ns (F 10))), (2, .int (cGr S U ns (F 10))), (0, .ref a0), (1, .ref k0)]) hx hb dX0_drag_50 hl (by decide) rfl (fun ls hl => ?_)
  refine lv_iload hx hb dX0_drag_52 (lv_at hl 0 rfl) ?_
  refine lv_iconst (v := 4) hx hb dX0_drag_54 (by decide) ?_
  refine va_mmin hx hb (hml.trans hl.1.symm) hown (hts (.methodLink RX0 123 Lib.Math.min.name) (by decide +kernel)) (hts (.static Lib.Math.min.name) (by decide +kernel)) (hts (.initialized "java/lang/Math") (by decide +kernel)) (hts (.code Lib.Math.min.name Lib.Math.min.code 2 (some .int)) (by decide +kernel)) (Nat.le_of_ble_eq_true rfl) (Nat.le_of_ble_eq_true rfl) (Nat.le_of_ble_eq_true rfl) (Nat.le_of_ble_eq_true rfl) dX0_drag_55 ?_
  change W _ _ _ _ _ _ _ _ _ _ _ _ _ _ _ (F0 m 58 ls (.int (imin (nI (cLie F P n 0)) 4) :: _))
  refine lv_aload_n hx hb dX0_drag_58 rfl (lv_at hl 4 rfl) ?_
  refine va_get (D := D) (ci := 0) (v := .int (F 2)) (C := RX0) (T := TX0) (N := 20) hx hb hts hiX0 hown hK.1 hP 0 rfl rfl 2 (by decide) (hts (.fieldLink RX0 16 "SledgeRace$Team" "weight" "I") (by decide +kernel)) (fun _ h9 => h9) rfl dX0_drag_59 ?_
  refine lv_bipush (v := 6) hx hb dX0_drag_62 (by decide) ?_
  refine lv_iload_n hx hb dX0_drag_64 rfl (lv_at hl 2 rfl) ?_
  refine lv_iconst (v := 2) hx hb dX0_drag_65 (by decide) ?_
  refine lv_idiv hx hb dX0_drag_66 (by decide) ?_
  refine lv_isub hx hb dX0_drag_67 ?_
  refine lv_imul hx hb dX0_drag_68 ?_
  refine lv_bipush (v := 10) hx hb dX0_drag_69 (by decide) ?_
  refine lv_idiv hx hb dX0_drag_71 (by decide) ?_
  refine lv_imul hx hb dX0_drag_72 ?_
  refine lv_istore (lv' := [(6, .int ((imin (nI (cLie F P n 0)) 4) * (((F 2) * (6 - ((cGr S V ns (F 10)) / 2))) / 10))), (5, .int (nI (cLie F P n 0))), (4, .int (imax 0 (((F 2) * ((20 + (10 * (cGr S U ns (F 10)))) + (4 * (cGr S V ns (F 10))))) / 10))), (3, .int (cGr S V ns (F 10))), (2, .int (cGr S U ns (F 10))), (0, .ref a0), (1, .ref k0)]) hx hb dX0_drag_73 hl (by decide) rfl (fun ls hl => ?_)
  refine lv_iload hx hb dX0_drag_75 (lv_at hl 2 rfl) ?_
  refine lv_iload hx hb dX0_drag_77 (lv_at hl 0 rfl) ?_
  refine lv_isub hx hb dX0_drag_79 ?_
  refine lv_aload_n hx hb dX0_drag_80 rfl (lv_at hl 5 rfl) ?_
  refine va_get (D := D) (ci := 0) (v := .int (F 2)) (C := RX0) (T := TX0) (N := 20) hx hb hts hiX0 hown hK.1 hP 0 rfl rfl 2 (by decide) (hts (.fieldLink RX0 16 "SledgeRace$Team" "weight" "I") (by decide +kernel)) (fun _ h9 => h9) rfl dX0_drag_81 ?_
  refine lv_bipush (v := 10) hx hb dX0_drag_84 (by decide) ?_
  refine lv_idiv hx hb dX0_drag_86 (by decide) ?_
  refine va_mmax hx hb (hml.trans hl.1.symm) hown (hts (.methodLink RX0 110 Lib.Math.max.name) (by decide +kernel)) (hts (.static Lib.Math.max.name) (by decide +kernel)) (hts (.initialized "java/lang/Math") (by decide +kernel)) (hts (.code Lib.Math.max.name Lib.Math.max.code 2 (some .int)) (by decide +kernel)) (Nat.le_of_ble_eq_true rfl) (Nat.le_of_ble_eq_true rfl) (Nat.le_of_ble_eq_true rfl) (Nat.le_of_ble_eq_true rfl) dX0_drag_87 ?_
  change W _ _ _ _ _ _ _ _ _ _ _ _ _ _ _ (F0 m 90 ls (.int (imax ((imax 0 (((F 2) * ((20 + (10 * (cGr S U ns (F 10)))) + (4 * (cGr S V ns (F 10))))) / 10)) - ((imin (nI (cLie F P n 0)) 4) * (((F 2) * (6 - ((cGr S V ns (F 10)) / 2))) / 10))) ((F 2) / 10)) :: _))
  refine lv_istore (lv' := [(7, .int (imax ((imax 0 (((F 2) * ((20 + (10 * (cGr S U ns (F 10)))) + (4 * (cGr S V ns (F 10))))) / 10)) - ((imin (nI (cLie F P n 0)) 4) * (((F 2) * (6 - ((cGr S V ns (F 10)) / 2))) / 10))) ((F 2) / 10))), (6, .int ((imin (nI (cLie F P n 0)) 4) * (((F 2) * (6 - ((cGr S V ns (F 10)) / 2))) / 10))), (5, .int (nI (cLie F P n 0))), (4, .int (imax 0 (((F 2) * ((20 + (10 * (cGr S U ns (F 10)))) + (4 * (cGr S V ns (F 10))))) / 10))), (3, .int (cGr S V ns (F 10))), (2, .int (cGr S U ns (F 10))), (0, .ref a0), (1, .ref k0)]) hx hb dX0_drag_90 hl (by decide) rfl (fun ls hl => ?_)
  refine lv_iload hx hb dX0_drag_92 (lv_at hl 2 rfl) ?_
  refine lv_iconst (v := 2) hx hb dX0_drag_94 (by decide) ?_
  refine lx_icmp_ge (tgt := 105) hx hb dX0_drag_95 (by decide) (fun c95 => ?_) (fun c95 => ?_)
  · skip
    refine lv_iload hx hb dX0_drag_105 (lv_at hl 0 rfl) ?_
    refine sp_top (show imax ((imax 0 (((F 2) * ((20 + (10 * (cGr S U ns (F 10)))) + (4 * (cGr S V ns (F 10))))) / 10)) - ((imin (nI (cLie F P n 0)) 4) * (((F 2) * (6 - ((cGr S V ns (F 10)) / 2))) / 10))) ((F 2) / 10) = cDrag F P n (cGr S U ns (F 10)) (cGr S V ns (F 10)) from by unfold cDrag; rw [if_neg c95]; rfl) ?_
    subst hQ
    exact W.iret hx hb hr (fun t ht _ => ⟨rfl, ht⟩) (fun _ h => nomatch h) dX0_drag_107
  · skip
    refine lv_iconst (v := 2) hx hb dX0_drag_98 (by decide) ?_
    refine lv_iload hx hb dX0_drag_99 (lv_at hl 0 rfl) ?_
    refine lv_imul hx hb dX0_drag_101 ?_
    refine lv_goto (tgt := 107) hx hb dX0_drag_102 (by decide) ?_
    refine sp_top (show 2 * (imax ((imax 0 (((F 2) * ((20 + (10 * (cGr S U ns (F 10)))) + (4 * (cGr S V ns (F 10))))) / 10)) - ((imin (nI (cLie F P n 0)) 4) * (((F 2) * (6 - ((cGr S V ns (F 10)) / 2))) / 10))) ((F 2) / 10)) = cDrag F P n (cGr S U ns (F 10)) (cGr S V ns (F 10)) from by unfold cDrag; rw [if_pos c95]; rfl) ?_
    subst hQ
    exact W.iret hx hb hr (fun t ht _ => ⟨rfl, ht⟩) (fun _ h => nomatch h) dX0_drag_107

abbrev rmX0_isAheadOf : Room := { frames := 1, cells := 0, slots := 0, locals := 20 }
set_option maxHeartbeats 4000000 in
set_option maxRecDepth 100000 in
/-- is it ahead of another one -/
theorem mX0_isAheadOf (l : Launch) (D : va_G) (cI cT : ClassId) (a0 a1 a2 a3 b0 b1 b2 b3 : Nat) (F E : Nat → Int32) : MetR l D cI cT yX0_isAheadOf wsX0_isAheadOf rmX0_isAheadOf [.ref a0, .ref b0] [(a0, oT F a1 a2 a3), (b0, oT E b1 b2 b3)] (bI (cAhead F E)) := by
  refine Met.ofW (cc := cX0_isAheadOf) (maxL := 2) (ret := (some .boolean)) (by decide) rfl ?_
  intro p e s m args below meth c s₁ B hml hv
  obtain ⟨hargs, hP, hK⟩ := hv
  have hx := B.exec
  have hb := B.bytes
  have hr := B.returns
  have hts := atoms_spec (ws := wsX0_isAheadOf) B.pre
  have hown : s.vm.findClass RX0 = some m.cls := findClass_of_methodNamed B.named
  have hlocks := B.notSynchronized
  have hiX0 : ∀ w ∈ u_ws RX0 TX0 20, w ∈ wsX0_isAheadOf := by decide +kernel
  have he : entryFrame m args 2 = F0 m 0 ((lg_sl [.ref a0, .ref b0] ++ List.replicate (2 - (lg_sl [.ref a0, .ref b0]).length) Slot.unset).toArray) [] := by rw [hargs]; exact lg_entry_eq m _ _
  rw [he]
  change W p l e rmX0_isAheadOf s m args below meth c s.heap [] 0 0 (MQ below (QcRead (bI (cAhead F E))) args s 0 0 (fun _ => False)) _
  obtain ⟨Q, hQ⟩ : ∃ Q, Q = MQ below (QcRead (bI (cAhead F E))) args s 0 0 (fun _ => False) := ⟨_, rfl⟩
  rw [← hQ]
  have hl := lv_entry [.ref a0, .ref b0] (n := 2) (Nat.le_of_ble_eq_true rfl)
  generalize (lg_sl [.ref a0, .ref b0] ++ List.replicate (2 - (lg_sl [.ref a0, .ref b0]).length) Slot.unset).toArray = ls at hl ⊢
  have hl : lv_has ls 2 [(0, .ref a0), (1, .ref b0)] := hl
  refine lv_aload_n hx hb dX0_isAheadOf_0 rfl (lv_at hl 0 rfl) ?_
  refine sp_rV (rest := []) (As := []) ⟨hx, hb, hml, hown, hts⟩ (mX0_isAtEnd l D cI cT a0 a1 a2 a3 F ) (cwV 0 hts gX0_isAheadOf_X0_isAtEnd rfl rfl rfl (by decide +kernel) ⟨Nat.le_of_ble_eq_true rfl, Nat.le_of_ble_eq_true rfl⟩) hK (sp_pick hP [0] rfl) (ci := 0) rfl rfl rfl rfl hl.1 rfl (Nat.le_of_ble_eq_true rfl) dX0_isAheadOf_1 ⟨Nat.le_of_ble_eq_true rfl, Nat.le_of_ble_eq_true rfl⟩ ?_
  refine lv_aload_n hx hb dX0_isAheadOf_4 rfl (lv_at hl 1 rfl) ?_
  refine sp_rV (rest := [.int (bI (cE F))]) (As := []) ⟨hx, hb, hml, hown, hts⟩ (mX0_isAtEnd l D cI cT b0 b1 b2 b3 E ) (cwV 0 hts gX0_isAheadOf_X0_isAtEnd rfl rfl rfl (by decide +kernel) ⟨Nat.le_of_ble_eq_true rfl, Nat.le_of_ble_eq_true rfl⟩) hK (sp_pick hP [1] rfl) (ci := 0) rfl rfl rfl rfl hl.1 rfl (Nat.le_of_ble_eq_true rfl) dX0_isAheadOf_5 ⟨Nat.le_of_ble_eq_true rfl, Nat.le_of_ble_eq_true rfl⟩ ?_
  refine sp_beq (tgt := 16) hx hb dX0_isAheadOf_8 (by decide) (fun c8 => ?_) (fun c8 => ?_)
  · skip
    refine lv_aload_n hx hb dX0_isAheadOf_16 rfl (lv_at hl 0 rfl) ?_
    refine sp_rV (rest := []) (As := []) ⟨hx, hb, hml, hown, hts⟩ (mX0_isAtEnd l D cI cT a0 a1 a2 a3 F ) (cwV 0 hts gX0_isAheadOf_X0_isAtEnd rfl rfl rfl (by decide +kernel) ⟨Nat.le_of_ble_eq_true rfl, Nat.le_of_ble_eq_true rfl⟩) hK (sp_pick hP [0] rfl) (ci := 0) rfl rfl rfl rfl hl.1 rfl (Nat.le_of_ble_eq_true rfl) dX0_isAheadOf_17 ⟨Nat.le_of_ble_eq_true rfl, Nat.le_of_ble_eq_true rfl⟩ ?_
    refine sp_if_eq (tgt := 51) hx hb dX0_isAheadOf_20 (by decide) (fun c20 => ?_) (fun c20 => ?_)
    · skip
      refine lv_aload_n hx hb dX0_isAheadOf_51 rfl (lv_at hl 0 rfl) ?_
      refine sp_rV (rest := []) (As := []) ⟨hx, hb, hml, hown, hts⟩ (mX0_isAtEnd l D cI cT a0 a1 a2 a3 F ) (cwV 0 hts gX0_isAheadOf_X0_isAtEnd rfl rfl rfl (by decide +kernel) ⟨Nat.le_of_ble_eq_true rfl, Nat.le_of_ble_eq_true rfl⟩) hK (sp_pick hP [0] rfl) (ci := 0) rfl rfl rfl rfl hl.1 rfl (Nat.le_of_ble_eq_true rfl) dX0_isAheadOf_52 ⟨Nat.le_of_ble_eq_true rfl, Nat.le_of_ble_eq_true rfl⟩ ?_
      refine sp_if_ne (tgt := 86) hx hb dX0_isAheadOf_55 (by decide) (fun c55 => absurd (c20.symm.trans c55) (by decide)) (fun _ => ?_)
      refine lv_aload_n hx hb dX0_isAheadOf_58 rfl (lv_at hl 0 rfl) ?_
      refine va_get (D := D) (ci := 0) (v := .int (F 10)) (C := RX0) (T := TX0) (N := 20) hx hb hts hiX0 hown hK.1 hP 0 rfl rfl 10 (by decide) (hts (.fieldLink RX0 53 "SledgeRace$Team" "front" "I") (by decide +kernel)) (fun _ h9 => h9) rfl dX0_isAheadOf_59 ?_
      refine lv_aload_n hx hb dX0_isAheadOf_62 rfl (lv_at hl 1 rfl) ?_
      refine va_get (D := D) (ci := 0) (v := .int (E 10)) (C := RX0) (T := TX0) (N := 20) hx hb hts hiX0 hown hK.1 hP 1 rfl rfl 10 (by decide) (hts (.fieldLink RX0 53 "SledgeRace$Team" "front" "I") (by decide +kernel)) (fun _ h9 => h9) rfl dX0_isAheadOf_63 ?_
      refine lv_icmp_eq (tgt := 86) hx hb dX0_isAheadOf_66 (by decide) (fun c66 => ?_) (fun c66 => ?_)
      · skip
        refine lv_aload_n hx hb dX0_isAheadOf_86 rfl (lv_at hl 0 rfl) ?_
        refine va_get (D := D) (ci := 0) (v := .int (F 0)) (C := RX0) (T := TX0) (N := 20) hx hb hts hiX0 hown hK.1 hP 0 rfl rfl 0 (by decide) (hts (.fieldLink RX0 7 "SledgeRace$Team" "number" "I") (by decide +kernel)) (fun _ h9 => h9) rfl dX0_isAheadOf_87 ?_
        refine lv_aload_n hx hb dX0_isAheadOf_90 rfl (lv_at hl 1 rfl) ?_
        refine va_get (D := D) (ci := 0) (v := .int (E 0)) (C := RX0) (T := TX0) (N := 20) hx hb hts hiX0 hown hK.1 hP 1 rfl rfl 0 (by decide) (hts (.fieldLink RX0 7 "SledgeRace$Team" "number" "I") (by decide +kernel)) (fun _ h9 => h9) rfl dX0_isAheadOf_91 ?_
        refine lx_icmp_ge (tgt := 101) hx hb dX0_isAheadOf_94 (by decide) (fun c94 => ?_) (fun c94 => ?_)
        · skip
          refine lv_iconst (v := 0) hx hb dX0_isAheadOf_101 (by decide) ?_
          refine sp_top (show 0 = bI (cAhead F E) from by unfold cAhead; rw [if_neg (not_not_intro c8), if_neg (fun q => absurd (c20.symm.trans q.1) (by decide)), if_neg (fun q => q.2 c66), decide_eq_false c94]; rfl) ?_
          subst hQ
          exact W.zret hx hb hr (bI_nar _) (fun t ht _ => ⟨rfl, ht⟩) (fun _ h => nomatch h) dX0_isAheadOf_102
        · skip
          refine lv_iconst (v := 1) hx hb dX0_isAheadOf_97 (by decide) ?_
          refine lv_goto (tgt := 102) hx hb dX0_isAheadOf_98 (by decide) ?_
          refine sp_top (show 1 = bI (cAhead F E) from by unfold cAhead; rw [if_neg (not_not_intro c8), if_neg (fun q => absurd (c20.symm.trans q.1) (by decide)), if_neg (fun q => q.2 c66), decide_eq_true c94]; rfl) ?_
          subst hQ
          exact W.zret hx hb hr (bI_nar _) (fun t ht _ => ⟨rfl, ht⟩) (fun _ h => nomatch h) dX0_isAheadOf_102
      · skip
        refine lv_aload_n hx hb dX0_isAheadOf_69 rfl (lv_at hl 0 rfl) ?_
        refine va_get (D := D) (ci := 0) (v := .int (F 10)) (C := RX0) (T := TX0) (N := 20) hx hb hts hiX0 hown hK.1 hP 0 rfl rfl 10 (by decide) (hts (.fieldLink RX0 53 "SledgeRace$Team" "front" "I") (by decide +kernel)) (fun _ h9 => h9) rfl dX0_isAheadOf_70 ?_
        refine lv_aload_n hx hb dX0_isAheadOf_73 rfl (lv_at hl 1 rfl) ?_
        refine va_get (D := D) (ci := 0) (v := .int (E 10)) (C := RX0) (T := TX0) (N := 20) hx hb hts hiX0 hown hK.1 hP 1 rfl rfl 10 (by decide) (hts (.fieldLink RX0 53 "SledgeRace$Team" "front" "I") (by decide +kernel)) (fun _ h9 => h9) rfl dX0_isAheadOf_74 ?_
        refine lx_icmp_le (tgt := 84) hx hb dX0_isAheadOf_77 (by decide) (fun c77 => ?_) (fun c77 => ?_)
        · skip
          refine lv_iconst (v := 0) hx hb dX0_isAheadOf_84 (by decide) ?_
          refine sp_top (show 0 = bI (cAhead F E) from by unfold cAhead; rw [if_neg (not_not_intro c8), if_neg (fun q => absurd (c20.symm.trans q.1) (by decide)), if_pos ⟨c20, c66⟩, decide_eq_false c77]; rfl) ?_
          subst hQ
          exact W.zret hx hb hr (bI_nar _) (fun t ht _ => ⟨rfl, ht⟩) (fun _ h => nomatch h) dX0_isAheadOf_85
        · skip
          refine lv_iconst (v := 1) hx hb dX0_isAheadOf_80 (by decide) ?_
          refine lv_goto (tgt := 85) hx hb dX0_isAheadOf_81 (by decide) ?_
          refine sp_top (show 1 = bI (cAhead F E) from by unfold cAhead; rw [if_neg (not_not_intro c8), if_neg (fun q => absurd (c20.symm.trans q.1) (by decide)), if_pos ⟨c20, c66⟩, decide_eq_true c77]; rfl) ?_
          subst hQ
          exact W.zret hx hb hr (bI_nar _) (fun t ht _ => ⟨rfl, ht⟩) (fun _ h => nomatch h) dX0_isAheadOf_85
    · skip
      refine lv_aload_n hx hb dX0_isAheadOf_23 rfl (lv_at hl 0 rfl) ?_
      refine va_get (D := D) (ci := 0) (v := .int (F 16)) (C := RX0) (T := TX0) (N := 20) hx hb hts hiX0 hown hK.1 hP 0 rfl rfl 16 (by decide) (hts (.fieldLink RX0 71 "SledgeRace$Team" "endTick" "I") (by decide +kernel)) (fun _ h9 => h9) rfl dX0_isAheadOf_24 ?_
      refine lv_aload_n hx hb dX0_isAheadOf_27 rfl (lv_at hl 1 rfl) ?_
      refine va_get (D := D) (ci := 0) (v := .int (E 16)) (C := RX0) (T := TX0) (N := 20) hx hb hts hiX0 hown hK.1 hP 1 rfl rfl 16 (by decide) (hts (.fieldLink RX0 71 "SledgeRace$Team" "endTick" "I") (by decide +kernel)) (fun _ h9 => h9) rfl dX0_isAheadOf_28 ?_
      refine lv_icmp_eq (tgt := 51) hx hb dX0_isAheadOf_31 (by decide) (fun c31 => ?_) (fun c31 => ?_)
      · skip
        refine lv_aload_n hx hb dX0_isAheadOf_51 rfl (lv_at hl 0 rfl) ?_
        refine sp_rV (rest := []) (As := []) ⟨hx, hb, hml, hown, hts⟩ (mX0_isAtEnd l D cI cT a0 a1 a2 a3 F ) (cwV 0 hts gX0_isAheadOf_X0_isAtEnd rfl rfl rfl (by decide +kernel) ⟨Nat.le_of_ble_eq_true rfl, Nat.le_of_ble_eq_true rfl⟩) hK (sp_pick hP [0] rfl) (ci := 0) rfl rfl rfl rfl hl.1 rfl (Nat.le_of_ble_eq_true rfl) dX0_isAheadOf_52 ⟨Nat.le_of_ble_eq_true rfl, Nat.le_of_ble_eq_true rfl⟩ ?_
        refine sp_if_ne (tgt := 86) hx hb dX0_isAheadOf_55 (by decide) (fun _ => ?_) (fun c55 => absurd (c20.symm.trans c55) (by decide))
        refine lv_aload_n hx hb dX0_isAheadOf_86 rfl (lv_at hl 0 rfl) ?_
        refine va_get (D := D) (ci := 0) (v := .int (F 0)) (C := RX0) (T := TX0) (N := 20) hx hb hts hiX0 hown hK.1 hP 0 rfl rfl 0 (by decide) (hts (.fieldLink RX0 7 "SledgeRace$Team" "number" "I") (by decide +kernel)) (fun _ h9 => h9) rfl dX0_isAheadOf_87 ?_
        refine lv_aload_n hx hb dX0_isAheadOf_90 rfl (lv_at hl 1 rfl) ?_
        refine va_get (D := D) (ci := 0) (v := .int (E 0)) (C := RX0) (T := TX0) (N := 20) hx hb hts hiX0 hown hK.1 hP 1 rfl rfl 0 (by decide) (hts (.fieldLink RX0 7 "SledgeRace$Team" "number" "I") (by decide +kernel)) (fun _ h9 => h9) rfl dX0_isAheadOf_91 ?_
        refine lx_icmp_ge (tgt := 101) hx hb dX0_isAheadOf_94 (by decide) (fun c94 => ?_) (fun c94 => ?_)
        · skip
          refine lv_iconst (v := 0) hx hb dX0_isAheadOf_101 (by decide) ?_
          refine sp_top (show 0 = bI (cAhead F E) from by unfold cAhead; rw [if_neg (not_not_intro c8), if_neg (fun q => q.2 c31), if_neg (fun q => absurd (c20.symm.trans q.1) (by decide)), decide_eq_false c94]; rfl) ?_
          subst hQ
          exact W.zret hx hb hr (bI_nar _) (fun t ht _ => ⟨rfl, ht⟩) (fun _ h => nomatch h) dX0_isAheadOf_102
        · skip
          refine lv_iconst (v := 1) hx hb dX0_isAheadOf_97 (by decide) ?_
          refine lv_goto (tgt := 102) hx hb dX0_isAheadOf_98 (by decide) ?_
          refine sp_top (show 1 = bI (cAhead F E) from by unfold cAhead; rw [if_neg (not_not_intro c8), if_neg (fun q => q.2 c31), if_neg (fun q => absurd (c20.symm.trans q.1) (by decide)), decide_eq_true c94]; rfl) ?_
          subst hQ
          exact W.zret hx hb hr (bI_nar _) (fun t ht _ => ⟨rfl, ht⟩) (fun _ h => nomatch h) dX0_isAheadOf_102
      · skip
        refine lv_aload_n hx hb dX0_isAheadOf_34 rfl (lv_at hl 0 rfl) ?_
        refine va_get (D := D) (ci := 0) (v := .int (F 16)) (C := RX0) (T := TX0) (N := 20) hx hb hts hiX0 hown hK.1 hP 0 rfl rfl 16 (by decide) (hts (.fieldLink RX0 71 "SledgeRace$Team" "endTick" "I") (by decide +kernel)) (fun _ h9 => h9) rfl dX0_isAheadOf_35 ?_
        refine lv_aload_n hx hb dX0_isAheadOf_38 rfl (lv_at hl 1 rfl) ?_
        refine va_get (D := D) (ci := 0) (v := .int (E 16)) (C := RX0) (T := TX0) (N := 20) hx hb hts hiX0 hown hK.1 hP 1 rfl rfl 16 (by decide) (hts (.fieldLink RX0 71 "SledgeRace$Team" "endTick" "I") (by decide +kernel)) (fun _ h9 => h9) rfl dX0_isAheadOf_39 ?_
        refine lx_icmp_ge (tgt := 49) hx hb dX0_isAheadOf_42 (by decide) (fun c42 => ?_) (fun c42 => ?_)
        · skip
          refine lv_iconst (v := 0) hx hb dX0_isAheadOf_49 (by decide) ?_
          refine sp_top (show 0 = bI (cAhead F E) from by unfold cAhead; rw [if_neg (not_not_intro c8), if_pos ⟨c20, c31⟩, decide_eq_false c42]; rfl) ?_
          subst hQ
          exact W.zret hx hb hr (bI_nar _) (fun t ht _ => ⟨rfl, ht⟩) (fun _ h => nomatch h) dX0_isAheadOf_50
        · skip
          refine lv_iconst (v := 1) hx hb dX0_isAheadOf_45 (by decide) ?_
          refine lv_goto (tgt := 50) hx hb dX0_isAheadOf_46 (by decide) ?_
          refine sp_top (show 1 = bI (cAhead F E) from by unfold cAhead; rw [if_neg (not_not_intro c8), if_pos ⟨c20, c31⟩, decide_eq_true c42]; rfl) ?_
          subst hQ
          exact W.zret hx hb hr (bI_nar _) (fun t ht _ => ⟨rfl, ht⟩) (fun _ h => nomatch h) dX0_isAheadOf_50
  · skip
    refine lv_aload_n hx hb dX0_isAheadOf_11 rfl (lv_at hl 0 rfl) ?_
    refine sp_rV (rest := []) (As := []) ⟨hx, hb, hml, hown, hts⟩ (mX0_isAtEnd l D cI cT a0 a1 a2 a3 F ) (cwV 0 hts gX0_isAheadOf_X0_isAtEnd rfl rfl rfl (by decide +kernel) ⟨Nat.le_of_ble_eq_true rfl, Nat.le_of_ble_eq_true rfl⟩) hK (sp_pick hP [0] rfl) (ci := 0) rfl rfl rfl rfl hl.1 rfl (Nat.le_of_ble_eq_true rfl) dX0_isAheadOf_12 ⟨Nat.le_of_ble_eq_true rfl, Nat.le_of_ble_eq_true rfl⟩ ?_
    refine sp_top (show bI (cE F) = bI (cAhead F E) from by unfold cAhead; rw [if_pos c8]) ?_
    subst hQ
    exact W.zret hx hb hr (bI_nar _) (fun t ht _ => ⟨rfl, ht⟩) (fun _ h => nomatch h) dX0_isAheadOf_15

abbrev rmX0_fact : Room := { frames := 2, cells := 0, slots := 0, locals := 44 }
set_option maxHeartbeats 4000000 in
set_option maxRecDepth 100000 in
/-- what team() tells -/
theorem mX0_fact (l : Launch) (D : va_G) (cI cT : ClassId) (a0 a1 a2 a3 : Nat) (F P : Nat → Int32) (w : Int32) (n : Nat) (hn : n ≤ 8) (h3 : F 3 = nI n) : MetR l D cI cT yX0_fact wsX0_fact rmX0_fact [.ref a0, .int w] [(a0, oT F a1 a2 a3), (a1, aI cI 8 P)] (cFact F P n w) := by
  refine Met.ofW (cc := cX0_fact) (maxL := 2) (ret := (some .int)) (by decide) rfl ?_
  intro p e s m args below meth c s₁ B hml hv
  obtain ⟨hargs, hP, hK⟩ := hv
  have hx := B.exec
  have hb := B.bytes
  have hr := B.returns
  have hts := atoms_spec (ws := wsX0_fact) B.pre
  have hown : s.vm.findClass RX0 = some m.cls := findClass_of_methodNamed B.named
  have hlocks := B.notSynchronized
  have hiX0 : ∀ w ∈ u_ws RX0 TX0 20, w ∈ wsX0_fact := by decide +kernel
  have he : entryFrame m args 2 = F0 m 0 ((lg_sl [.ref a0, .int w] ++ List.replicate (2 - (lg_sl [.ref a0, .int w]).length) Slot.unset).toArray) [] := by rw [hargs]; exact lg_entry_eq m _ _
  rw [he]
  change W p l e rmX0_fact s m args below meth c s.heap [] 0 0 (MQ below (QcRead (cFact F P n w)) args s 0 0 (fun _ => False)) _
  obtain ⟨Q, hQ⟩ : ∃ Q, Q = MQ below (QcRead (cFact F P n w)) args s 0 0 (fun _ => False) := ⟨_, rfl⟩
  rw [← hQ]
  have hl := lv_entry [.ref a0, .int w] (n := 2) (Nat.le_of_ble_eq_true rfl)
  generalize (lg_sl [.ref a0, .int w] ++ List.replicate (2 - (lg_sl [.ref a0, .int w]).length) Slot.unset).toArray = ls at hl ⊢
  have hl : lv_has ls 2 [(0, .ref a0), (1, .int w)] := hl
  refine lv_iload_n hx hb dX0_fact_0 rfl (lv_at hl 1 rfl) ?_
  by_cases sw0 : w = 0
  · subst sw0
    refine lv_tableIn (tgt := 60) hx hb dX0_fact_1 (by decide) (by decide) rfl (by decide) ?_
    refine lv_aload_n hx hb dX0_fact_60 rfl (lv_at hl 0 rfl) ?_
    refine va_get (D := D) (ci := 0) (v := .int (F 10)) (C := RX0) (T := TX0) (N := 20) hx hb hts hiX0 hown hK.1 hP 0 rfl rfl 10 (by decide) (hts (.fieldLink RX0 53 "SledgeRace$Team" "front" "I") (by decide +kernel)) (fun _ h9 => h9) rfl dX0_fact_61 ?_
    refine sp_top (show F 10 = cFact F P n 0 from rfl ) ?_
    subst hQ
    exact W.iret hx hb hr (fun t ht _ => ⟨rfl, ht⟩) (fun _ h => nomatch h) dX0_fact_64
  by_cases sw1 : w = 1
  · subst sw1
    refine lv_tableIn (tgt := 65) hx hb dX0_fact_1 (by decide) (by decide) rfl (by decide) ?_
    refine lv_aload_n hx hb dX0_fact_65 rfl (lv_at hl 0 rfl) ?_
    refine va_get (D := D) (ci := 0) (v := .int (F 11)) (C := RX0) (T := TX0) (N := 20) hx hb hts hiX0 hown hK.1 hP 0 rfl rfl 11 (by decide) (hts (.fieldLink RX0 56 "SledgeRace$Team" "breath" "I") (by decide +kernel)) (fun _ h9 => h9) rfl dX0_fact_66 ?_
    refine sp_top (show F 11 = cFact F P n 1 from rfl ) ?_
    subst hQ
    exact W.iret hx hb hr (fun t ht _ => ⟨rfl, ht⟩) (fun _ h => nomatch h) dX0_fact_69
  by_cases sw2 : w = 2
  · subst sw2
    refine lv_tableIn (tgt := 70) hx hb dX0_fact_1 (by decide) (by decide) rfl (by decide) ?_
    refine lv_aload_n hx hb dX0_fact_70 rfl (lv_at hl 0 rfl) ?_
    refine va_get (D := D) (ci := 0) (v := .int (F 12)) (C := RX0) (T := TX0) (N := 20) hx hb hts hiX0 hown hK.1 hP 0 rfl rfl 12 (by decide) (hts (.fieldLink RX0 59 "SledgeRace$Team" "rope" "I") (by decide +kernel)) (fun _ h9 => h9) rfl dX0_fact_71 ?_
    refine sp_top (show F 12 = cFact F P n 2 from rfl ) ?_
    subst hQ
    exact W.iret hx hb hr (fun t ht _ => ⟨rfl, ht⟩) (fun _ h => nomatch h) dX0_fact_74
  by_cases sw3 : w = 3
  · subst sw3
    refine lv_tableIn (tgt := 75) hx hb dX0_fact_1 (by decide) (by decide) rfl (by decide) ?_
    refine lv_aload_n hx hb dX0_fact_75 rfl (lv_at hl 0 rfl) ?_
    refine va_get (D := D) (ci := 0) (v := .int (F 13)) (C := RX0) (T := TX0) (N := 20) hx hb hts hiX0 hown hK.1 hP 0 rfl rfl 13 (by decide) (hts (.fieldLink RX0 62 "SledgeRace$Team" "knotting" "I") (by decide +kernel)) (fun _ h9 => h9) rfl dX0_fact_76 ?_
    refine sp_top (show F 13 = cFact F P n 3 from rfl ) ?_
    subst hQ
    exact W.iret hx hb hr (fun t ht _ => ⟨rfl, ht⟩) (fun _ h => nomatch h) dX0_fact_79
  by_cases sw4 : w = 4
  · subst sw4
    refine lv_tableIn (tgt := 80) hx hb dX0_fact_1 (by decide) (by decide) rfl (by decide) ?_
    refine lv_aload_n hx hb dX0_fact_80 rfl (lv_at hl 0 rfl) ?_
    refine lv_iconst (v := 0) hx hb dX0_fact_81 (by decide) ?_
    refine sp_rV (rest := []) (As := [.int 0]) ⟨hx, hb, hml, hown, hts⟩ (mX0_rollersLying l D cI cT a0 a1 a2 a3 F P 0 n hn h3) (cwV 1 hts gX0_fact_X0_rollersLying rfl rfl rfl (by decide +kernel) ⟨Nat.le_of_ble_eq_true rfl, Nat.le_of_ble_eq_true rfl⟩) hK (sp_pick hP [0, 1] rfl) (ci := 0) rfl rfl rfl rfl hl.1 rfl (Nat.le_of_ble_eq_true rfl) dX0_fact_82 ⟨Nat.le_of_ble_eq_true rfl, Nat.le_of_ble_eq_true rfl⟩ ?_
    refine sp_top (show nI (cLie F P n 0) = cFact F P n 4 from rfl ) ?_
    subst hQ
    exact W.iret hx hb hr (fun t ht _ => ⟨rfl, ht⟩) (fun _ h => nomatch h) dX0_fact_85
  by_cases sw5 : w = 5
  · subst sw5
    refine lv_tableIn (tgt := 86) hx hb dX0_fact_1 (by decide) (by decide) rfl (by decide) ?_
    refine lv_aload_n hx hb dX0_fact_86 rfl (lv_at hl 0 rfl) ?_
    refine lv_iconst (v := 1) hx hb dX0_fact_87 (by decide) ?_
    refine sp_rV (rest := []) (As := [.int 1]) ⟨hx, hb, hml, hown, hts⟩ (mX0_rollersLying l D cI cT a0 a1 a2 a3 F P 1 n hn h3) (cwV 1 hts gX0_fact_X0_rollersLying rfl rfl rfl (by decide +kernel) ⟨Nat.le_of_ble_eq_true rfl, Nat.le_of_ble_eq_true rfl⟩) hK (sp_pick hP [0, 1] rfl) (ci := 0) rfl rfl rfl rfl hl.1 rfl (Nat.le_of_ble_eq_true rfl) dX0_fact_88 ⟨Nat.le_of_ble_eq_true rfl, Nat.le_of_ble_eq_true rfl⟩ ?_
    refine sp_top (show nI (cLie F P n 1) = cFact F P n 5 from rfl ) ?_
    subst hQ
    exact W.iret hx hb hr (fun t ht _ => ⟨rfl, ht⟩) (fun _ h => nomatch h) dX0_fact_91
  by_cases sw6 : w = 6
  · subst sw6
    refine lv_tableIn (tgt := 92) hx hb dX0_fact_1 (by decide) (by decide) rfl (by decide) ?_
    refine lv_aload_n hx hb dX0_fact_92 rfl (lv_at hl 0 rfl) ?_
    refine lv_iconst (v := 2) hx hb dX0_fact_93 (by decide) ?_
    refine sp_rV (rest := []) (As := [.int 2]) ⟨hx, hb, hml, hown, hts⟩ (mX0_rollersLying l D cI cT a0 a1 a2 a3 F P 2 n hn h3) (cwV 1 hts gX0_fact_X0_rollersLying rfl rfl rfl (by decide +kernel) ⟨Nat.le_of_ble_eq_true rfl, Nat.le_of_ble_eq_true rfl⟩) hK (sp_pick hP [0, 1] rfl) (ci := 0) rfl rfl rfl rfl hl.1 rfl (Nat.le_of_ble_eq_true rfl) dX0_fact_94 ⟨Nat.le_of_ble_eq_true rfl, Nat.le_of_ble_eq_true rfl⟩ ?_
    refine sp_top (show nI (cLie F P n 2) = cFact F P n 6 from rfl ) ?_
    subst hQ
    exact W.iret hx hb hr (fun t ht _ => ⟨rfl, ht⟩) (fun _ h => nomatch h) dX0_fact_97
  by_cases sw7 : w = 7
  · subst sw7
    refine lv_tableIn (tgt := 98) hx hb dX0_fact_1 (by decide) (by decide) rfl (by decide) ?_
    refine lv_aload_n hx hb dX0_fact_98 rfl (lv_at hl 0 rfl) ?_
    refine lv_iconst (v := 3) hx hb dX0_fact_99 (by decide) ?_
    refine sp_rV (rest := []) (As := [.int 3]) ⟨hx, hb, hml, hown, hts⟩ (mX0_rollersLying l D cI cT a0 a1 a2 a3 F P 3 n hn h3) (cwV 1 hts gX0_fact_X0_rollersLying rfl rfl rfl (by decide +kernel) ⟨Nat.le_of_ble_eq_true rfl, Nat.le_of_ble_eq_true rfl⟩) hK (sp_pick hP [0, 1] rfl) (ci := 0) rfl rfl rfl rfl hl.1 rfl (Nat.le_of_ble_eq_true rfl) dX0_fact_100 ⟨Nat.le_of_ble_eq_true rfl, Nat.le_of_ble_eq_true rfl⟩ ?_
    refine sp_top (show nI (cLie F P n 3) = cFact F P n 7 from rfl ) ?_
    subst hQ
    exact W.iret hx hb hr (fun t ht _ => ⟨rfl, ht⟩) (fun _ h => nomatch h) dX0_fact_103
  by_cases sw8 : w = 8
  · subst sw8
    refine lv_tableIn (tgt := 104) hx hb dX0_fact_1 (by decide) (by decide) rfl (by decide) ?_
    refine lv_aload_n hx hb dX0_fact_104 rfl (lv_at hl 0 rfl) ?_
    refine va_get (D := D) (ci := 0) (v := .int (F 16)) (C := RX0) (T := TX0) (N := 20) hx hb hts hiX0 hown hK.1 hP 0 rfl rfl 16 (by decide) (hts (.fieldLink RX0 71 "SledgeRace$Team" "endTick" "I") (by decide +kernel)) (fun _ h9 => h9) rfl dX0_fact_105 ?_
    refine sp_top (show F 16 = cFact F P n 8 from rfl ) ?_
    subst hQ
    exact W.iret hx hb hr (fun t ht _ => ⟨rfl, ht⟩) (fun _ h => nomatch h) dX0_fact_108
  by_cases sw9 : w = 9
  · subst sw9
    refine lv_tableIn (tgt := 109) hx hb dX0_fact_1 (by decide) (by decide) rfl (by decide) ?_
    refine lv_aload_n hx hb dX0_fact_109 rfl (lv_at hl 0 rfl) ?_
    refine va_get (D := D) (ci := 0) (v := .int (F 8)) (C := RX0) (T := TX0) (N := 20) hx hb hts hiX0 hown hK.1 hP 0 rfl rfl 8 (by decide) (hts (.fieldLink RX0 34 "SledgeRace$Team" "effort" "I") (by decide +kernel)) (fun _ h9 => h9) rfl dX0_fact_110 ?_
    refine sp_top (show F 8 = cFact F P n 9 from rfl ) ?_
    subst hQ
    exact W.iret hx hb hr (fun t ht _ => ⟨rfl, ht⟩) (fun _ h => nomatch h) dX0_fact_113
  by_cases sw10 : w = 10
  · subst sw10
    refine lv_tableIn (tgt := 114) hx hb dX0_fact_1 (by decide) (by decide) rfl (by decide) ?_
    refine lv_aload_n hx hb dX0_fact_114 rfl (lv_at hl 0 rfl) ?_
    refine va_get (D := D) (ci := 0) (v := .int (F 9)) (C := RX0) (T := TX0) (N := 20) hx hb hts hiX0 hown hK.1 hP 0 rfl rfl 9 (by decide) (hts (.fieldLink RX0 37 "SledgeRace$Team" "gap" "I") (by decide +kernel)) (fun _ h9 => h9) rfl dX0_fact_115 ?_
    refine sp_top (show F 9 = cFact F P n 10 from rfl ) ?_
    subst hQ
    exact W.iret hx hb hr (fun t ht _ => ⟨rfl, ht⟩) (fun _ h => nomatch h) dX0_fact_118
  refine lv_tableOut (tgt := 119) hx hb dX0_fact_1 (sp_out10 sw0 sw1 sw2 sw3 sw4 sw5 sw6 sw7 sw8 sw9 sw10) (by decide) ?_
  refine lv_aload_n hx hb dX0_fact_119 rfl (lv_at hl 0 rfl) ?_
  refine va_get (D := D) (ci := 0) (v := .int (F 15)) (C := RX0) (T := TX0) (N := 20) hx hb hts hiX0 hown hK.1 hP 0 rfl rfl 15 (by decide) (hts (.fieldLink RX0 68 "SledgeRace$Team" "way" "I") (by decide +kernel)) (fun _ h9 => h9) rfl dX0_fact_120 ?_
  refine sp_top (show F 15 = cFact F P n w from by simp only [cFact, if_neg sw0, if_neg sw1, if_neg sw2, if_neg sw3, if_neg sw4, if_neg sw5, if_neg sw6, if_neg sw7, if_neg sw8, if_neg sw9, if_neg sw10]) ?_
  subst hQ
  exact W.iret hx hb hr (fun t ht _ => ⟨rfl, ht⟩) (fun _ h => nomatch h) dX0_fact_123

