/-! p20: the law's own ground: rows of rows, sorted by their starts -/
def GOK (cI : ClassId) (GW : va_W) (mm : Nat) (f : Nat → Option Nat) (st : Nat → Int32) : Prop := ∀ i, i < mm → ∃ (a q : Nat) (P : Nat → Int32), f i = some a ∧ GW[q]? = some (a, aI cI 3 P) ∧ P 0 = st i
theorem gok_up {cI : ClassId} {GW : va_W} {i q a : Nat} {f : Nat → Option Nat} {st P : Nat → Int32} (h : GOK cI GW i f st) (hq : GW[q]? = some (a, aI cI 3 P)) (h0 : P 0 = st i) : GOK cI GW (i + 1) (va_up f i (some a)) st := by
  intro j hj
  by_cases e : j = i
  · subst e
    exact ⟨a, q, P, va_up_self _ _ _, hq, h0⟩
  · obtain ⟨b, r, P2, h1, h2, h3⟩ := h j (by omega)
    exact ⟨b, r, P2, (va_up_ne _ _ e).trans h1, h2, h3⟩
theorem gok_cons {cI : ClassId} {GW : va_W} {i : Nat} {f : Nat → Option Nat} {st : Nat → Int32} (x : Nat × va_E) (h : GOK cI GW i f st) : GOK cI (x :: GW) i f st := fun j hj => by
  obtain ⟨b, r, P2, h1, h2, h3⟩ := h j hj
  exact ⟨b, r + 1, P2, h1, h2, h3⟩
theorem gok_0 {cI : ClassId} {GW : va_W} {f : Nat → Option Nat} {st : Nat → Int32} : GOK cI GW 0 f st := fun j hj => absurd hj (Nat.not_lt_zero j)
def gK (st : Nat → Int32) (mm : Nat) (x : Int32) : Nat := ft (fun j => decide (¬ st j < x)) mm
def gT (st : Nat → Int32) (mm : Nat) (x : Int32) : Bool := decide (gK st mm x < mm ∧ st (gK st mm x) = x)
def gM (st : Nat → Int32) (mm : Nat) (x : Int32) : Nat := mm + if gT st mm x = true then 0 else 1
def gS (st : Nat → Int32) (mm : Nat) (x : Int32) : Nat → Int32 := fun j => if j < gK st mm x then st j else if j = gK st mm x then x else st (if gT st mm x = true then j else j - 1)
theorem gK_le (st : Nat → Int32) (mm : Nat) (x : Int32) : gK st mm x ≤ mm := ft_le _ _
theorem gK_eq {st : Nat → Int32} {mm k : Nat} {x : Int32} (hk : k ≤ mm) (h : ∀ j, j < k → st j < x) (he : k = mm ∨ ¬ st k < x) : k = gK st mm x := by
  unfold gK
  have h1 := ft_le (fun j => decide (¬ st j < x)) mm
  have h2 := ft_no (fun j => decide (¬ st j < x)) mm
  have h3 := ft_yes (fun j => decide (¬ st j < x)) mm
  rcases Nat.lt_trichotomy k (ft (fun j => decide (¬ st j < x)) mm) with z | z | z
  · rcases he with e | e
    · omega
    · have := of_decide_eq_false (h2 k z)
      exact absurd e this
  · exact z
  · have := of_decide_eq_true (h3 (by omega))
    exact absurd (h _ z) this
abbrev rmX3_lay : Room := { frames := 0, cells := 2, slots := 16, locals := 0 }
set_option maxHeartbeats 4000000 in
set_option maxRecDepth 100000 in
/-- a stretch is laid -/
theorem mX3_lay (l : Launch) (D : va_G) (cI cT cL cG cZ : ClassId) (sz : Nat) (h0 g mm : Nat) (hmm : mm ≤ 12) (a0 b0 c0 x sl so : Int32) (tt : Value) (f : Nat → Option Nat) (st : Nat → Int32) (GW : va_W) (hG : GOK cI GW mm f st) : MetK (S := Nat × (Nat → Option Nat) × va_W) l D cI cT cL cG cZ yX3_lay wsX3_lay rmX3_lay [.ref h0, .int x, .int sl, .int so] ([(h0, oSv a0 b0 c0 (.ref g) tt), (g, aQ cG mm f)] ++ GW) (fun u => GOK cI u.2.2 (gM st mm x) u.2.1 (gS st mm x)) (fun u => [(h0, oSv a0 b0 c0 (.ref u.1) tt), (u.1, aQ cG (gM st mm x) u.2.1)] ++ u.2.2) 2 16 sz := by
  refine Met.ofW (cc := cX3_lay) (maxL := 8) (ret := none) (by decide) rfl ?_
  intro p e s m args below meth c s₁ B hml hv
  obtain ⟨hargs, hsz, hP, hX, hN⟩ := hv
  subst hsz
  have hx := B.exec
  have hb := B.bytes
  have hr := B.returns
  have hts := atoms_spec (ws := wsX3_lay) B.pre
  have hown : s.vm.findClass RX3 = some m.cls := findClass_of_methodNamed B.named
  have hlocks := B.notSynchronized
  have hiX3 : ∀ w ∈ u_ws RX3 TX3 5, w ∈ wsX3_lay := by decide +kernel
  have he : entryFrame m args 8 = F0 m 0 ((lg_sl [.ref h0, .int x, .int sl, .int so] ++ List.replicate (8 - (lg_sl [.ref h0, .int x, .int sl, .int so]).length) Slot.unset).toArray) [] := by rw [hargs]; exact lg_entry_eq m _ _
  rw [he]
  obtain ⟨A, hAe⟩ : ∃ A, A = (frA (List.map Prod.fst ([(h0, oSv a0 b0 c0 (.ref g) tt), (g, aQ cG mm f)] ++ GW)) s.heap.size) := ⟨_, rfl⟩
  change W p l e rmX3_lay s m args below meth c s.heap [] 0 0 (MQ below (va_Qv (S := Nat × (Nat → Option Nat) × va_W) (fun u => GOK cI u.2.2 (gM st mm x) u.2.1 (gS st mm x)) (fun u t => va_P D vwCl ((fun u => [(h0, oSv a0 b0 c0 (.ref u.1) tt), (u.1, aQ cG (gM st mm x) u.2.1)] ++ u.2.2) u) t.heap ∧ va_D (frA (List.map Prod.fst ([(h0, oSv a0 b0 c0 (.ref g) tt), (g, aQ cG mm f)] ++ GW)) s.heap.size) ((fun u => [(h0, oSv a0 b0 c0 (.ref u.1) tt), (u.1, aQ cG (gM st mm x) u.2.1)] ++ u.2.2) u)) (frA (List.map Prod.fst ([(h0, oSv a0 b0 c0 (.ref g) tt), (g, aQ cG mm f)] ++ GW)) s.heap.size)) args s 2 16 (frA (List.map Prod.fst ([(h0, oSv a0 b0 c0 (.ref g) tt), (g, aQ cG mm f)] ++ GW)) s.heap.size)) _
  rw [← hAe]
  obtain ⟨Q, hQ⟩ : ∃ Q, Q = MQ below (va_Qv (S := Nat × (Nat → Option Nat) × va_W) (fun u => GOK cI u.2.2 (gM st mm x) u.2.1 (gS st mm x)) (fun u t => va_P D vwCl ((fun u => [(h0, oSv a0 b0 c0 (.ref u.1) tt), (u.1, aQ cG (gM st mm x) u.2.1)] ++ u.2.2) u) t.heap ∧ va_D A ((fun u => [(h0, oSv a0 b0 c0 (.ref u.1) tt), (u.1, aQ cG (gM st mm x) u.2.1)] ++ u.2.2) u)) A) args s 2 16 A := ⟨_, rfl⟩
  rw [← hQ]
  have hl := lv_entry [.ref h0, .int x, .int sl, .int so] (n := 8) (Nat.le_of_ble_eq_true rfl)
  generalize (lg_sl [.ref h0, .int x, .int sl, .int so] ++ List.replicate (8 - (lg_sl [.ref h0, .int x, .int sl, .int so]).length) Slot.unset).toArray = ls at hl ⊢
  have hl : lv_has ls 8 [(0, .ref h0), (1, .int x), (2, .int sl), (3, .int so)] := hl
  have hA : ∀ q : Nat, s.heap.size ≤ q → A q := by rw [hAe]; exact fun q h => Or.inr h
  have hD : va_D A (([(h0, oSv a0 b0 c0 (.ref g) tt), (g, aQ cG mm f)] ++ GW)) := sp_D hN (by rw [hAe]; exact fun q h => Or.inl h)
  have hS : va_S A s.heap s.heap [] := va_S.rf
  obtain ⟨H, hH0⟩ : ∃ H, H = s.heap := ⟨_, rfl⟩
  obtain ⟨locs, hlo⟩ : ∃ L : List Loc, L = [] := ⟨_, rfl⟩
  have hP : va_P D vwCl (([(h0, oSv a0 b0 c0 (.ref g) tt), (g, aQ cG mm f)] ++ GW)) H := by rw [hH0]; exact hP
  have hS : va_S A s.heap H locs := by rw [hH0, hlo]; exact hS
  rw [show W p l e rmX3_lay s m args below meth c s.heap [] 0 0 Q (F0 m 0 ls []) = W p l e rmX3_lay s m args below meth c H locs 0 0 Q (F0 m 0 ls []) by rw [hH0, hlo]]
  clear hH0 hlo
  have hKle := gK_le st mm x
  obtain ⟨K, hK⟩ : ∃ K, K = gK st mm x := ⟨_, rfl⟩
  rw [← hK] at hKle
  obtain ⟨tB, htB⟩ : ∃ tB, tB = gT st mm x := ⟨_, rfl⟩
  obtain ⟨M, hM⟩ : ∃ M, M = gM st mm x := ⟨_, rfl⟩
  have hMt : tB = true → M = mm := fun z => by rw [hM]; unfold gM; rw [← htB, z, if_pos rfl]; rfl
  have hMf : tB = false → M = mm + 1 := fun z => by rw [hM]; unfold gM; rw [← htB, z, if_neg (by decide)]
  have hMle : M ≤ 13 := by cases h : tB with | true => have := hMt h; omega | false => have := hMf h; omega
  have hKM : K < M ∨ K = M → True := fun _ => trivial
  have hKt : tB = true → K < mm := fun z => by rw [htB] at z; unfold gT at z; rw [← hK] at z; exact (of_decide_eq_true z).1
  have loop86 : ∀ (q78 fu i : Nat), M - i < fu → i ≤ M → ∀ (fm : Nat → Option Nat) (GW2 : va_W) (c1 s1 : Nat), GOK cI GW2 mm f st → GOK cI GW2 i fm (gS st mm x) → c1 ≤ 1 + (if i ≤ K then 0 else 1) → s1 ≤ 13 + (if i ≤ K then 0 else 3) → ∀ (H : Heap) (locs : List Loc), va_P D vwCl ([(q78, aQ cG M fm), (h0, oSv a0 b0 c0 (.ref g) tt), (g, aQ cG mm f)] ++ GW2) H → va_D A ([(q78, aQ cG M fm), (h0, oSv a0 b0 c0 (.ref g) tt), (g, aQ cG mm f)] ++ GW2) → va_S A s.heap H locs → ∀ (ls : Array Slot), lv_has ls 8 [(7, .int (nI i)), (6, .ref q78), (5, .int (bI tB)), (4, .int (nI K)), (0, .ref h0), (1, .int x), (2, .int sl), (3, .int so)] → W p l e rmX3_lay s m args below meth c H locs  c1 s1 Q (F0 m 86 ls []) := by
    intro q78 fu
    induction fu with
    | zero => intro i hfu; exact absurd hfu (Nat.not_lt_zero _)
    | succ fu ih =>
      intro i hfu hi fm GW2 c1 s1 hG0 hGi hc1 hs1 H locs hP hD hS ls hl
      refine lv_iload hx hb dX3_lay_86 (lv_at hl 0 rfl) ?_
      refine lv_aload hx hb dX3_lay_88 (lv_at hl 1 rfl) ?_
      refine va_alen hx hb hX.2.1 hP 0 2 rfl rfl (v := nI M) rfl dX3_lay_90 ?_
      refine sp_ge (by omega) (by omega) (tgt := 166) hx hb dX3_lay_91 (by decide) (fun c => ?_) (fun c => ?_)
      · skip
        refine lv_aload_n hx hb dX3_lay_166 rfl (lv_at hl 4 rfl) ?_
        refine lv_aload hx hb dX3_lay_167 (lv_at hl 1 rfl) ?_
        refine va_put (D := D) (ci := 3) (v := .ref q78) (ty := (.array (.array .int))) (C := RX3) (T := TX3) (N := 5) hx hb hts hiX3 tyX3 tyX3_ok nmX3 hown hX.2.1 hP hD hS 1 rfl rfl 3 (by decide) (hts (.fieldLink RX3 15 "SledgeRaceLaw$Sim" "ground" "[[I") (by decide +kernel)) (fun _ h9 => h9) rfl (by decide +kernel) rfl rfl (Nat.le_of_ble_eq_true rfl) dX3_lay_169 (fun H locs hP hD hS => ?_)
        have hP : va_P D vwCl ([(q78, aQ cG M fm), (h0, oSv a0 b0 c0 (.ref q78) tt), (g, aQ cG mm f)] ++ GW2) H := hP
        have hD : va_D A ([(q78, aQ cG M fm), (h0, oSv a0 b0 c0 (.ref q78) tt), (g, aQ cG mm f)] ++ GW2) := hD
        have eiM : i = M := by omega
        subst eiM
        have hMx : i = gM st mm x := hM
        obtain ⟨hP, hD⟩ := pl_perm (A' := [(h0, oSv a0 b0 c0 (.ref q78) tt), (q78, aQ cG i fm)]) hP hD [1, 0] (by decide) rfl
        have hc2 : (if i ≤ K then 0 else 1) ≤ 1 := by split <;> omega
        have hc3 : (if i ≤ K then 0 else 3) ≤ 3 := by split <;> omega
        have hP9 : va_P D vwCl ([(h0, oSv a0 b0 c0 (.ref q78) tt), (q78, aQ cG (gM st mm x) fm)] ++ GW2) H := (by rw [← hMx]; exact hP)
        have hD9 : va_D A ([(h0, oSv a0 b0 c0 (.ref q78) tt), (q78, aQ cG (gM st mm x) fm)] ++ GW2) := (by rw [← hMx]; exact hD)
        subst hQ
        refine W.widen (k := 2) (n := 16) (by omega) (by omega) ?_
        subst hAe
        exact W.vret hx hb hr (fun t ht hW => ⟨⟨(q78, fm, GW2), rfl, (by rw [← hMx]; exact hGi), by show va_P D vwCl _ t.heap; rw [ht]; exact hP9, hD9⟩, hS.F ht⟩) hS.2.2 dX3_lay_172
      · skip
        refine lv_aload hx hb dX3_lay_94 (lv_at hl 1 rfl) ?_
        refine lv_iload hx hb dX3_lay_96 (lv_at hl 0 rfl) ?_
        refine lv_iload hx hb dX3_lay_98 (lv_at hl 0 rfl) ?_
        refine lv_iload hx hb dX3_lay_100 (lv_at hl 3 rfl) ?_
        refine sp_ge (by omega) (by omega) (tgt := 115) hx hb dX3_lay_102 (by decide) (fun c2 => ?_) (fun c2 => ?_)
        · skip
          refine lv_iload hx hb dX3_lay_115 (lv_at hl 0 rfl) ?_
          refine lv_iload hx hb dX3_lay_117 (lv_at hl 3 rfl) ?_
          refine sp_ne (by omega) (by omega) (tgt := 140) hx hb dX3_lay_119 (by decide) (fun c3 => ?_) (fun c3 => ?_)
          · skip
            have hif : ¬ i ≤ K := by omega
            rw [if_neg hif] at hc1 hs1
            have hif2 : ¬ i + 1 ≤ K := by omega
            refine lv_aload_n hx hb dX3_lay_140 rfl (lv_at hl 4 rfl) ?_
            refine va_get (D := D) (ci := 3) (v := .ref g) (C := RX3) (T := TX3) (N := 5) hx hb hts hiX3 hown hX.2.1 hP 1 rfl rfl 3 (by decide) (hts (.fieldLink RX3 15 "SledgeRaceLaw$Sim" "ground" "[[I") (by decide +kernel)) (fun _ h9 => h9) rfl dX3_lay_141 ?_
            refine lv_iload hx hb dX3_lay_144 (lv_at hl 2 rfl) ?_
            refine sp_if_eq (tgt := 154) hx hb dX3_lay_146 (by decide) (fun ct => ?_) (fun ct => ?_)
            · skip
              have hMM := hMf ct
              refine lv_iload hx hb dX3_lay_154 (lv_at hl 0 rfl) ?_
              refine lv_iconst (v := 1) hx hb dX3_lay_156 (by decide) ?_
              refine lv_isub hx hb dX3_lay_157 ?_
              refine sp_top (show (nI i) - 1 = nI (i - 1) from (pk_sub (a := i) (b := 1) (by omega))) ?_
              obtain ⟨a9, q9, P9, g1, g2, g3⟩ := hG0 (i - 1) (by omega)
              refine pl_gld hx hb hX hP 2 rfl (by omega) (by omega) g1 dX3_lay_158 ?_
              refine pl_gst hx hb hX hP hD hS 0 (q9 + 3) rfl (show _ = some (a9, aI cI 3 P9) from g2) (by omega) (by omega) dX3_lay_159 (fun H locs hP hD hS => ?_)
              have hP : va_P D vwCl ([(q78, aQ cG M (va_up fm i (some a9))), (h0, oSv a0 b0 c0 (.ref g) tt), (g, aQ cG mm f)] ++ GW2) H := hP
              have hD : va_D A ([(q78, aQ cG M (va_up fm i (some a9))), (h0, oSv a0 b0 c0 (.ref g) tt), (g, aQ cG mm f)] ++ GW2) := hD
              refine lv_iinc (v := nI (i + 1)) (lv' := [(7, .int (nI (i + 1))), (6, .ref q78), (5, .int (bI tB)), (4, .int (nI K)), (0, .ref h0), (1, .int x), (2, .int sl), (3, .int so)]) hx hb dX3_lay_160 hl (k := 0) rfl ((nI_1 i)) (by decide) rfl (fun ls hl => ?_)
              refine lv_goto (tgt := 86) hx hb dX3_lay_163 (by decide) ?_
              have hgS : P9 0 = gS st mm x i := by rw [g3]; unfold gS; rw [← hK, ← htB, if_neg (by omega), if_neg (by omega), ct]; rfl
              exact ih (i + 1) (by omega) (by omega) _ GW2 c1 s1 hG0 (gok_up hGi g2 hgS) (by rw [if_neg hif2]; exact hc1) (by rw [if_neg hif2]; exact hs1) H locs hP hD hS ls (lv_sub hl [0, 1, 2, 3, 4, 5, 6, 7] rfl)
            · skip
              have hMM := hMt ct
              refine lv_iload hx hb dX3_lay_149 (lv_at hl 0 rfl) ?_
              refine lv_goto (tgt := 158) hx hb dX3_lay_151 (by decide) ?_
              obtain ⟨a9, q9, P9, g1, g2, g3⟩ := hG0 (i) (by omega)
              refine pl_gld hx hb hX hP 2 rfl (by omega) (by omega) g1 dX3_lay_158 ?_
              refine pl_gst hx hb hX hP hD hS 0 (q9 + 3) rfl (show _ = some (a9, aI cI 3 P9) from g2) (by omega) (by omega) dX3_lay_159 (fun H locs hP hD hS => ?_)
              have hP : va_P D vwCl ([(q78, aQ cG M (va_up fm i (some a9))), (h0, oSv a0 b0 c0 (.ref g) tt), (g, aQ cG mm f)] ++ GW2) H := hP
              have hD : va_D A ([(q78, aQ cG M (va_up fm i (some a9))), (h0, oSv a0 b0 c0 (.ref g) tt), (g, aQ cG mm f)] ++ GW2) := hD
              refine lv_iinc (v := nI (i + 1)) (lv' := [(7, .int (nI (i + 1))), (6, .ref q78), (5, .int (bI tB)), (4, .int (nI K)), (0, .ref h0), (1, .int x), (2, .int sl), (3, .int so)]) hx hb dX3_lay_160 hl (k := 0) rfl ((nI_1 i)) (by decide) rfl (fun ls hl => ?_)
              refine lv_goto (tgt := 86) hx hb dX3_lay_163 (by decide) ?_
              have hgS : P9 0 = gS st mm x i := by rw [g3]; unfold gS; rw [← hK, ← htB, if_neg (by omega), if_neg (by omega), ct]; rfl
              exact ih (i + 1) (by omega) (by omega) _ GW2 c1 s1 hG0 (gok_up hGi g2 hgS) (by rw [if_neg hif2]; exact hc1) (by rw [if_neg hif2]; exact hs1) H locs hP hD hS ls (lv_sub hl [0, 1, 2, 3, 4, 5, 6, 7] rfl)
          · skip
            subst c3
            rw [if_pos (Nat.le_refl i)] at hc1 hs1
            have hif2 : ¬ i + 1 ≤ i := by omega
            refine lv_iconst (v := 3) hx hb dX3_lay_122 (by decide) ?_
            refine pl_newi hx hb (hts (.arrayClass .int) (by decide +kernel)) hX.1 hP hD hS hA 3 rfl (by omega) (show c1 + 1 ≤ 2 by omega) (show s1 + 3 ≤ 16 by omega) dX3_lay_123 (fun q122 H hP hD hS => ?_)
            refine lv_dup hx hb dX3_lay_125 rfl ?_
            refine lv_iconst (v := 0) hx hb dX3_lay_126 (by decide) ?_
            refine lv_iload_n hx hb dX3_lay_127 rfl (lv_at hl 5 rfl) ?_
            refine sp_iast (i := 0) hx hb hX.1.1 hP hD hS 0 0 rfl rfl (by omega) (by omega) dX3_lay_128 (fun H locs hP hD hS => ?_)
            have hP : va_P D vwCl ((q122, aI cI 3 (upd (fun _ => 0) 0 x)) :: ([(q78, aQ cG M fm), (h0, oSv a0 b0 c0 (.ref g) tt), (g, aQ cG mm f)] ++ GW2)) H := hP
            have hD : va_D A ((q122, aI cI 3 (upd (fun _ => 0) 0 x)) :: ([(q78, aQ cG M fm), (h0, oSv a0 b0 c0 (.ref g) tt), (g, aQ cG mm f)] ++ GW2)) := hD
            refine lv_dup hx hb dX3_lay_129 rfl ?_
            refine lv_iconst (v := 1) hx hb dX3_lay_130 (by decide) ?_
            refine lv_iload_n hx hb dX3_lay_131 rfl (lv_at hl 6 rfl) ?_
            refine sp_iast (i := 1) hx hb hX.1.1 hP hD hS 0 0 rfl rfl (by omega) (by omega) dX3_lay_132 (fun H locs hP hD hS => ?_)
            have hP : va_P D vwCl ((q122, aI cI 3 (upd (upd (fun _ => 0) 0 x) 1 sl)) :: ([(q78, aQ cG M fm), (h0, oSv a0 b0 c0 (.ref g) tt), (g, aQ cG mm f)] ++ GW2)) H := hP
            have hD : va_D A ((q122, aI cI 3 (upd (upd (fun _ => 0) 0 x) 1 sl)) :: ([(q78, aQ cG M fm), (h0, oSv a0 b0 c0 (.ref g) tt), (g, aQ cG mm f)] ++ GW2)) := hD
            refine lv_dup hx hb dX3_lay_133 rfl ?_
            refine lv_iconst (v := 2) hx hb dX3_lay_134 (by decide) ?_
            refine lv_iload_n hx hb dX3_lay_135 rfl (lv_at hl 7 rfl) ?_
            refine sp_iast (i := 2) hx hb hX.1.1 hP hD hS 0 0 rfl rfl (by omega) (by omega) dX3_lay_136 (fun H locs hP hD hS => ?_)
            have hP : va_P D vwCl ((q122, aI cI 3 (upd (upd (upd (fun _ => 0) 0 x) 1 sl) 2 so)) :: ([(q78, aQ cG M fm), (h0, oSv a0 b0 c0 (.ref g) tt), (g, aQ cG mm f)] ++ GW2)) H := hP
            have hD : va_D A ((q122, aI cI 3 (upd (upd (upd (fun _ => 0) 0 x) 1 sl) 2 so)) :: ([(q78, aQ cG M fm), (h0, oSv a0 b0 c0 (.ref g) tt), (g, aQ cG mm f)] ++ GW2)) := hD
            refine lv_goto (tgt := 159) hx hb dX3_lay_137 (by decide) ?_
            refine pl_gst hx hb hX hP hD hS 1 0 rfl rfl (by omega) (by omega) dX3_lay_159 (fun H locs hP hD hS => ?_)
            have hP : va_P D vwCl ([(q122, aI cI 3 (upd (upd (upd (fun _ => 0) 0 x) 1 sl) 2 so)), (q78, aQ cG M (va_up fm i (some q122))), (h0, oSv a0 b0 c0 (.ref g) tt), (g, aQ cG mm f)] ++ GW2) H := hP
            have hD : va_D A ([(q122, aI cI 3 (upd (upd (upd (fun _ => 0) 0 x) 1 sl) 2 so)), (q78, aQ cG M (va_up fm i (some q122))), (h0, oSv a0 b0 c0 (.ref g) tt), (g, aQ cG mm f)] ++ GW2) := hD
            obtain ⟨hP, hD⟩ := pl_perm (A' := [(q78, aQ cG M (va_up fm i (some q122))), (h0, oSv a0 b0 c0 (.ref g) tt), (g, aQ cG mm f), (q122, aI cI 3 (upd (upd (upd (fun _ => 0) 0 x) 1 sl) 2 so))]) hP hD [1, 2, 3, 0] (by decide) rfl
            have hP : va_P D vwCl ([(q78, aQ cG M (va_up fm i (some q122))), (h0, oSv a0 b0 c0 (.ref g) tt), (g, aQ cG mm f)] ++ ((q122, aI cI 3 (upd (upd (upd (fun _ => 0) 0 x) 1 sl) 2 so)) :: GW2)) H := hP
            have hD : va_D A ([(q78, aQ cG M (va_up fm i (some q122))), (h0, oSv a0 b0 c0 (.ref g) tt), (g, aQ cG mm f)] ++ ((q122, aI cI 3 (upd (upd (upd (fun _ => 0) 0 x) 1 sl) 2 so)) :: GW2)) := hD
            refine lv_iinc (v := nI (i + 1)) (lv' := [(7, .int (nI (i + 1))), (6, .ref q78), (5, .int (bI tB)), (4, .int (nI i)), (0, .ref h0), (1, .int x), (2, .int sl), (3, .int so)]) hx hb dX3_lay_160 hl (k := 0) rfl ((nI_1 i)) (by decide) rfl (fun ls hl => ?_)
            refine lv_goto (tgt := 86) hx hb dX3_lay_163 (by decide) ?_
            have hgS : (upd (upd (upd (fun _ => 0) 0 x) 1 sl) 2 so : Nat → Int32) 0 = gS st mm x i := by unfold gS; rw [← hK, if_neg (by omega), if_pos rfl]; rfl
            exact ih (i + 1) (by omega) (by omega) _ ((q122, aI cI 3 (upd (upd (upd (fun _ => 0) 0 x) 1 sl) 2 so)) :: GW2) (c1 + 1) (s1 + 3) (gok_cons _ hG0) (gok_up (q := 0) (gok_cons _ hGi) rfl hgS) (by rw [if_neg hif2]; omega) (by rw [if_neg hif2]; omega) H locs hP hD hS ls (lv_sub hl [0, 1, 2, 3, 4, 5, 6, 7] rfl)
        · skip
          rw [if_pos (show i ≤ K by omega)] at hc1 hs1
          refine lv_aload_n hx hb dX3_lay_105 rfl (lv_at hl 4 rfl) ?_
          refine va_get (D := D) (ci := 3) (v := .ref g) (C := RX3) (T := TX3) (N := 5) hx hb hts hiX3 hown hX.2.1 hP 1 rfl rfl 3 (by decide) (hts (.fieldLink RX3 15 "SledgeRaceLaw$Sim" "ground" "[[I") (by decide +kernel)) (fun _ h9 => h9) rfl dX3_lay_106 ?_
          refine lv_iload hx hb dX3_lay_109 (lv_at hl 0 rfl) ?_
          obtain ⟨a9, q9, P9, g1, g2, g3⟩ := hG0 i (by omega)
          refine pl_gld hx hb hX hP 2 rfl (by omega) (by omega) g1 dX3_lay_111 ?_
          refine lv_goto (tgt := 159) hx hb dX3_lay_112 (by decide) ?_
          refine pl_gst hx hb hX hP hD hS 0 (q9 + 3) rfl (show _ = some (a9, aI cI 3 P9) from g2) (by omega) (by omega) dX3_lay_159 (fun H locs hP hD hS => ?_)
          have hP : va_P D vwCl ([(q78, aQ cG M (va_up fm i (some a9))), (h0, oSv a0 b0 c0 (.ref g) tt), (g, aQ cG mm f)] ++ GW2) H := hP
          have hD : va_D A ([(q78, aQ cG M (va_up fm i (some a9))), (h0, oSv a0 b0 c0 (.ref g) tt), (g, aQ cG mm f)] ++ GW2) := hD
          refine lv_iinc (v := nI (i + 1)) (lv' := [(7, .int (nI (i + 1))), (6, .ref q78), (5, .int (bI tB)), (4, .int (nI K)), (0, .ref h0), (1, .int x), (2, .int sl), (3, .int so)]) hx hb dX3_lay_160 hl (k := 0) rfl ((nI_1 i)) (by decide) rfl (fun ls hl => ?_)
          refine lv_goto (tgt := 86) hx hb dX3_lay_163 (by decide) ?_
          have hgS : P9 0 = gS st mm x i := by rw [g3]; unfold gS; rw [← hK, if_pos c2]
          exact ih (i + 1) (by omega) (by omega) _ GW2 c1 s1 hG0 (gok_up hGi g2 hgS) (by rw [if_pos (show i + 1 ≤ K by omega)]; exact hc1) (by rw [if_pos (show i + 1 ≤ K by omega)]; exact hs1) H locs hP hD hS ls (lv_sub hl [0, 1, 2, 3, 4, 5, 6, 7] rfl)
  have after78 : ∀ (ls : Array Slot), lv_has ls 8 [(5, .int (bI tB)), (4, .int (nI K)), (0, .ref h0), (1, .int x), (2, .int sl), (3, .int so)] → W p l e rmX3_lay s m args below meth c H locs  0 0 Q (F0 m 78 ls [.int (nI M)]) := by
    intro ls hl
    refine pl_newg hx hb hown (hts (.classLink RX3 13 "[I") (by decide +kernel)) hX hP hD hS hA M rfl (by omega) (Nat.le_of_ble_eq_true rfl) (show 0 + M ≤ 16 by omega) dX3_lay_78 (fun q78 H hP hD hS => ?_)
    refine lv_astore (lv' := [(6, .ref q78), (5, .int (bI tB)), (4, .int (nI K)), (0, .ref h0), (1, .int x), (2, .int sl), (3, .int so)]) hx hb dX3_lay_81 hl (by decide) rfl (fun ls hl => ?_)
    refine lv_iconst (v := nI 0) hx hb dX3_lay_83 (by decide) ?_
    refine lv_istore (lv' := [(7, .int (nI 0)), (6, .ref q78), (5, .int (bI tB)), (4, .int (nI K)), (0, .ref h0), (1, .int x), (2, .int sl), (3, .int so)]) hx hb dX3_lay_84 hl (by decide) rfl (fun ls hl => ?_)
    exact loop86 q78 _ 0 (Nat.lt_succ_self _) (Nat.zero_le _) _ GW _ _ hG gok_0 (by rw [if_pos (Nat.zero_le _)]; omega) (by rw [if_pos (Nat.zero_le _)]; omega) H locs hP hD hS ls (lv_sub hl [0, 1, 2, 3, 4, 5, 6, 7] rfl)
  have after60 : ∀ (ls : Array Slot), lv_has ls 8 [(4, .int (nI K)), (0, .ref h0), (1, .int x), (2, .int sl), (3, .int so)] → W p l e rmX3_lay s m args below meth c H locs  0 0 Q (F0 m 60 ls [.int (bI tB)]) := by
    intro ls hl
    refine lv_istore (lv' := [(5, .int (bI tB)), (4, .int (nI K)), (0, .ref h0), (1, .int x), (2, .int sl), (3, .int so)]) hx hb dX3_lay_60 hl (by decide) rfl (fun ls hl => ?_)
    refine lv_aload_n hx hb dX3_lay_62 rfl (lv_at hl 2 rfl) ?_
    refine va_get (D := D) (ci := 3) (v := .ref g) (C := RX3) (T := TX3) (N := 5) hx hb hts hiX3 hown hX.2.1 hP 0 rfl rfl 3 (by decide) (hts (.fieldLink RX3 15 "SledgeRaceLaw$Sim" "ground" "[[I") (by decide +kernel)) (fun _ h9 => h9) rfl dX3_lay_63 ?_
    refine va_alen hx hb hX.2.1 hP 1 2 rfl rfl (v := nI mm) rfl dX3_lay_66 ?_
    refine lv_iload hx hb dX3_lay_67 (lv_at hl 0 rfl) ?_
    refine sp_if_eq (tgt := 76) hx hb dX3_lay_69 (by decide) (fun ct => ?_) (fun ct => ?_)
    · skip
      refine lv_iconst (v := nI 1) hx hb dX3_lay_76 (by decide) ?_
      refine lv_iadd hx hb dX3_lay_77 ?_
      refine sp_top (show (nI mm) + (nI 1) = nI (mm + 1) from nI_add mm 1) ?_
      refine sp_top (show nI (mm + 1) = nI M from by rw [hMf ct]) ?_
      exact after78 ls (lv_sub hl [0, 1, 2, 3, 4, 5] rfl)
    · skip
      refine lv_iconst (v := nI 0) hx hb dX3_lay_72 (by decide) ?_
      refine lv_goto (tgt := 77) hx hb dX3_lay_73 (by decide) ?_
      refine lv_iadd hx hb dX3_lay_77 ?_
      refine sp_top (show (nI mm) + (nI 0) = nI (mm + 0) from nI_add mm 0) ?_
      refine sp_top (show nI (mm + 0) = nI M from by rw [hMt ct]; rfl) ?_
      exact after78 ls (lv_sub hl [0, 1, 2, 3, 4, 5] rfl)
  have after32 : ∀ (ls : Array Slot), lv_has ls 8 [(4, .int (nI K)), (0, .ref h0), (1, .int x), (2, .int sl), (3, .int so)] → W p l e rmX3_lay s m args below meth c H locs  0 0 Q (F0 m 32 ls []) := by
    intro ls hl
    refine lv_iload hx hb dX3_lay_32 (lv_at hl 0 rfl) ?_
    refine lv_aload_n hx hb dX3_lay_34 rfl (lv_at hl 1 rfl) ?_
    refine va_get (D := D) (ci := 3) (v := .ref g) (C := RX3) (T := TX3) (N := 5) hx hb hts hiX3 hown hX.2.1 hP 0 rfl rfl 3 (by decide) (hts (.fieldLink RX3 15 "SledgeRaceLaw$Sim" "ground" "[[I") (by decide +kernel)) (fun _ h9 => h9) rfl dX3_lay_35 ?_
    refine va_alen hx hb hX.2.1 hP 1 2 rfl rfl (v := nI mm) rfl dX3_lay_38 ?_
    refine sp_ge (by omega) (by omega) (tgt := 59) hx hb dX3_lay_39 (by decide) (fun c => ?_) (fun c => ?_)
    · skip
      refine lv_iconst (v := 0) hx hb dX3_lay_59 (by decide) ?_
      have ht9 : tB = false := by rw [htB]; unfold gT; rw [← hK]; exact decide_eq_false (fun z => absurd z.1 (by omega))
      refine sp_top (show 0 = bI tB from by rw [ht9]; rfl) ?_
      exact after60 ls (lv_sub hl [0, 1, 2, 3, 4] rfl)
    · skip
      refine lv_aload_n hx hb dX3_lay_42 rfl (lv_at hl 1 rfl) ?_
      refine va_get (D := D) (ci := 3) (v := .ref g) (C := RX3) (T := TX3) (N := 5) hx hb hts hiX3 hown hX.2.1 hP 0 rfl rfl 3 (by decide) (hts (.fieldLink RX3 15 "SledgeRaceLaw$Sim" "ground" "[[I") (by decide +kernel)) (fun _ h9 => h9) rfl dX3_lay_43 ?_
      refine lv_iload hx hb dX3_lay_46 (lv_at hl 0 rfl) ?_
      obtain ⟨a9, q9, P9, g1, g2, g3⟩ := hG K c
      refine pl_gld hx hb hX hP 1 rfl c (by omega) g1 dX3_lay_48 ?_
      refine lv_iconst (v := nI 0) hx hb dX3_lay_49 (by decide) ?_
      refine sp_iald hx hb hX.1.1 hP (q9 + 2) 0 (show _ = some (a9, aI cI 3 P9) from g2) rfl (by omega) (by omega) dX3_lay_50 ?_
      refine sp_top (show P9 0 = st K from g3) ?_
      refine lv_iload_n hx hb dX3_lay_51 rfl (lv_at hl 2 rfl) ?_
      refine lv_icmp_ne (tgt := 59) hx hb dX3_lay_52 (by decide) (fun c4 => ?_) (fun c4 => ?_)
      · skip
        refine lv_iconst (v := 0) hx hb dX3_lay_59 (by decide) ?_
        have ht9 : tB = false := by rw [htB]; unfold gT; rw [← hK]; exact decide_eq_false (fun z => absurd z.2 c4)
        refine sp_top (show 0 = bI tB from by rw [ht9]; rfl) ?_
        exact after60 ls (lv_sub hl [0, 1, 2, 3, 4] rfl)
      · skip
        refine lv_iconst (v := 1) hx hb dX3_lay_55 (by decide) ?_
        refine lv_goto (tgt := 60) hx hb dX3_lay_56 (by decide) ?_
        have ht9 : tB = true := by rw [htB]; unfold gT; rw [← hK]; exact decide_eq_true ⟨c, c4⟩
        refine sp_top (show 1 = bI tB from by rw [ht9]; rfl) ?_
        exact after60 ls (lv_sub hl [0, 1, 2, 3, 4] rfl)
  have loop3 : ∀ (fu k : Nat), mm - k < fu → k ≤ mm → (∀ j, j < k → st j < x) → ∀ (ls : Array Slot), lv_has ls 8 [(4, .int (nI k)), (0, .ref h0), (1, .int x), (2, .int sl), (3, .int so)] → W p l e rmX3_lay s m args below meth c H locs  0 0 Q (F0 m 3 ls []) := by
    intro fu
    induction fu with
    | zero => intro k hfu; exact absurd hfu (Nat.not_lt_zero _)
    | succ fu ih =>
      intro k hfu hk hlt ls hl
      refine lv_iload hx hb dX3_lay_3 (lv_at hl 0 rfl) ?_
      refine lv_aload_n hx hb dX3_lay_5 rfl (lv_at hl 1 rfl) ?_
      refine va_get (D := D) (ci := 3) (v := .ref g) (C := RX3) (T := TX3) (N := 5) hx hb hts hiX3 hown hX.2.1 hP 0 rfl rfl 3 (by decide) (hts (.fieldLink RX3 15 "SledgeRaceLaw$Sim" "ground" "[[I") (by decide +kernel)) (fun _ h9 => h9) rfl dX3_lay_6 ?_
      refine va_alen hx hb hX.2.1 hP 1 2 rfl rfl (v := nI mm) rfl dX3_lay_9 ?_
      refine sp_ge (by omega) (by omega) (tgt := 32) hx hb dX3_lay_10 (by decide) (fun c => ?_) (fun c => ?_)
      · skip
        have ek : k = K := by rw [hK]; exact gK_eq hk hlt (Or.inl (by omega))
        rw [ek] at hl
        exact after32 ls hl
      · skip
        refine lv_aload_n hx hb dX3_lay_13 rfl (lv_at hl 1 rfl) ?_
        refine va_get (D := D) (ci := 3) (v := .ref g) (C := RX3) (T := TX3) (N := 5) hx hb hts hiX3 hown hX.2.1 hP 0 rfl rfl 3 (by decide) (hts (.fieldLink RX3 15 "SledgeRaceLaw$Sim" "ground" "[[I") (by decide +kernel)) (fun _ h9 => h9) rfl dX3_lay_14 ?_
        refine lv_iload hx hb dX3_lay_17 (lv_at hl 0 rfl) ?_
        obtain ⟨a9, q9, P9, g1, g2, g3⟩ := hG k c
        refine pl_gld hx hb hX hP 1 rfl c (by omega) g1 dX3_lay_19 ?_
        refine lv_iconst (v := nI 0) hx hb dX3_lay_20 (by decide) ?_
        refine sp_iald hx hb hX.1.1 hP (q9 + 2) 0 (show _ = some (a9, aI cI 3 P9) from g2) rfl (by omega) (by omega) dX3_lay_21 ?_
        refine sp_top (show P9 0 = st k from g3) ?_
        refine lv_iload_n hx hb dX3_lay_22 rfl (lv_at hl 2 rfl) ?_
        refine lx_icmp_ge (tgt := 32) hx hb dX3_lay_23 (by decide) (fun c4 => ?_) (fun c4 => ?_)
        · skip
          have ek : k = K := by rw [hK]; exact gK_eq hk hlt (Or.inr c4)
          rw [ek] at hl
          exact after32 ls hl
        · skip
          refine lv_iinc (v := nI (k + 1)) (lv' := [(4, .int (nI (k + 1))), (0, .ref h0), (1, .int x), (2, .int sl), (3, .int so)]) hx hb dX3_lay_26 hl (k := 0) rfl ((nI_1 k)) (by decide) rfl (fun ls hl => ?_)
          refine lv_goto (tgt := 3) hx hb dX3_lay_29 (by decide) ?_
          exact ih (k + 1) (by omega) (by omega) (lt_s (p := fun j => st j < x) hlt c4) ls hl
  refine lv_iconst (v := nI 0) hx hb dX3_lay_0 (by decide) ?_
  refine lv_istore (lv' := [(4, .int (nI 0)), (0, .ref h0), (1, .int x), (2, .int sl), (3, .int so)]) hx hb dX3_lay_1 hl (by decide) rfl (fun ls hl => ?_)
  exact loop3 _ 0 (Nat.lt_succ_self _) (Nat.zero_le _) (fun j hj => absurd hj (Nat.not_lt_zero j)) ls (lv_sub hl [0, 1, 2, 3, 4] rfl)
