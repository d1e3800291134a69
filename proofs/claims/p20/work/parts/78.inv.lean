/-! p20: bounds that a tick keeps -/
theorem i_sub {a b : Int32} (ha : -1000000000 ≤ a.toInt ∧ a.toInt ≤ 1000000000) (hb : -1000000000 ≤ b.toInt ∧ b.toInt ≤ 1000000000) : (a - b).toInt = a.toInt - b.toInt := by
  rw [Int32.toInt_sub]
  exact Int.bmod_eq_of_le (by omega) (by omega)
theorem i_add {a b : Int32} (ha : -1000000000 ≤ a.toInt ∧ a.toInt ≤ 1000000000) (hb : -1000000000 ≤ b.toInt ∧ b.toInt ≤ 1000000000) : (a + b).toInt = a.toInt + b.toInt := by
  rw [Int32.toInt_add]
  exact Int.bmod_eq_of_le (by omega) (by omega)
def Best (B : Nat → Prop) (Q : Nat → Int32) (n j : Nat) : Prop := j < n ∧ B j ∧ ∀ i, i < n → B i → Q j ≤ Q i ∧ (i < j → Q j < Q i)
theorem cSide_1 {F : Nat → Int32} {x : Int32} (h : cSide F x = 1) : x < F 10 - F 1 := by
  unfold cSide at h
  split at h
  · exact absurd h (by decide)
  · split at h
    · assumption
    · split at h <;> exact absurd h (by decide)
theorem cLB_spec (F P : Nat → Int32) : ∀ n, ((cLB F P n).1 = -1 ∧ (cLB F P n).2 = F 10 - F 1 ∧ ∀ i, i < n → ¬ cSide F (P i) = 1) ∨ ∃ j, cLB F P n = (nI j, P j) ∧ Best (fun i => cSide F (P i) = 1) P n j
  | 0 => Or.inl ⟨rfl, rfl, fun i h => absurd h (Nat.not_lt_zero i)⟩
  | n + 1 => by
    unfold cLB
    by_cases c : cSide F (P n) = 1 ∧ P n < (cLB F P n).2
    · rw [if_pos c]
      refine Or.inr ⟨n, rfl, Nat.lt_succ_self n, c.1, fun i hi hB => ?_⟩
      rcases Nat.lt_or_ge i n with z | z
      · rcases cLB_spec F P n with q | ⟨j, q1, q2⟩
        · exact absurd hB (q.2.2 i z)
        · have e : (cLB F P n).2 = P j := by rw [q1]
          have h1 : P n < P j := by rw [← e]; exact c.2
          have h2 := (q2.2.2 i z hB).1
          have h3 := Int32.lt_of_lt_of_le h1 h2
          exact ⟨Int32.le_of_lt h3, fun _ => h3⟩
      · have e : i = n := by omega
        subst e
        exact ⟨Int32.le_refl _, fun z => absurd z (Nat.lt_irrefl _)⟩
    · rw [if_neg c]
      rcases cLB_spec F P n with q | ⟨j, q1, q2⟩
      · refine Or.inl ⟨q.1, q.2.1, fun i hi hB => ?_⟩
        rcases Nat.lt_or_ge i n with z | z
        · exact q.2.2 i z hB
        · have e : i = n := by omega
          subst e
          exact c ⟨hB, by rw [q.2.1]; exact cSide_1 hB⟩
      · refine Or.inr ⟨j, q1, Nat.lt_succ_of_lt q2.1, q2.2.1, fun i hi hB => ?_⟩
        rcases Nat.lt_or_ge i n with z | z
        · exact q2.2.2 i z hB
        · have e : i = n := by omega
          subst e
          have e2 : (cLB F P i).2 = P j := by rw [q1]
          have h1 : ¬ P i < P j := fun z => c ⟨hB, by rw [e2]; exact z⟩
          exact ⟨Int32.not_lt.mp h1, fun z => absurd z (by have := q2.1; omega)⟩
theorem nI_ne_m1 {j : Nat} (hj : j < 1000) : ¬ nI j = -1 := fun z => absurd (congrArg Int32.toInt z) (by rw [nI_toInt (by omega), show (-1 : Int32).toInt = -1 from by decide]; omega)
theorem nI_inj' {i j : Nat} (hi : i < 1000) (hj : j < 1000) (h : nI i = nI j) : i = j := by
  have := congrArg Int32.toNatClampNeg h
  rw [nI_clamp (by omega), nI_clamp (by omega)] at this
  exact this
theorem nI_half : ∀ j, j < 13 → nI j / 2 = nI (j / 2) := by decide +kernel
/-! p20: numbers -/
theorem i_div10 {a : Int32} (h : -1000000000 ≤ a.toInt ∧ a.toInt ≤ 1000000000) : (0 ≤ a.toInt → (a / 10).toInt = a.toInt / 10) ∧ (a.toInt < 0 → (a / 10).toInt ≤ 0 ∧ a.toInt ≤ (a / 10).toInt) := by
  have h10 : (10 : Int32).toInt = 10 := by decide
  constructor
  · intro h0
    rw [Int32.toInt_div, h10, Int.tdiv_eq_ediv_of_nonneg h0, Int.bmod_eq_of_le (by omega) (by omega)]
  · intro h0
    have e : (a / 10).toInt = -((-a.toInt) / 10) := by
      rw [Int32.toInt_div, h10]
      have e2 : a.toInt.tdiv 10 = -((-a.toInt) / 10) := by
        have e3 : a.toInt = -(-a.toInt) := by omega
        rw [e3, Int.neg_tdiv, Int.tdiv_eq_ediv_of_nonneg (by omega)]
        simp
      rw [e2, Int.bmod_eq_of_le (by omega) (by omega)]
    omega
theorem i_mul {a b : Int32} (h : -1000000000 ≤ a.toInt * b.toInt ∧ a.toInt * b.toInt ≤ 1000000000) : (a * b).toInt = a.toInt * b.toInt := by
  rw [Int32.toInt_mul]
  exact Int.bmod_eq_of_le (by omega) (by omega)
theorem imax_toInt (x y : Int32) : (imax x y).toInt = if x.toInt < y.toInt then y.toInt else x.toInt := by
  unfold imax
  by_cases h : x < y
  · rw [if_pos h, if_pos (Int32.lt_iff_toInt_lt.mp h)]
  · rw [if_neg h, if_neg (fun z => h (Int32.lt_iff_toInt_lt.mpr z))]
theorem imin_toInt (x y : Int32) : (imin x y).toInt = if y.toInt < x.toInt then y.toInt else x.toInt := by
  unfold imin
  by_cases h : y < x
  · rw [if_pos h, if_pos (Int32.lt_iff_toInt_lt.mp h)]
  · rw [if_neg h, if_neg (fun z => h (Int32.lt_iff_toInt_lt.mpr z))]
/-- what lies between 0 and N is one of its naturals -/
theorem nI_rng {x : Int32} {N : Nat} (h0 : 0 ≤ x.toInt) (hN : x.toInt ≤ N) : ∃ j : Nat, j ≤ N ∧ x = nI j := by
  obtain ⟨j, hj, e⟩ := nI_of (x := x) (fun z => by rw [Int32.lt_iff_toInt_lt, show (0 : Int32).toInt = 0 from by decide] at z; omega)
  refine ⟨j, ?_, e⟩
  have : x.toInt = (j : Int) := by rw [e]; exact nI_toInt hj
  omega
theorem clampR (y : Int32) (N : Nat) (hN : N ≤ 100000) : ∃ j : Nat, j ≤ N ∧ imin (nI N) (imax 0 y) = nI j := by
  have hn : (nI N).toInt = (N : Int) := nI_toInt (by omega)
  have h0 : (0 : Int32).toInt = 0 := by decide
  refine nI_rng ?_ ?_
  · rw [imin_toInt, imax_toInt, hn, h0]; split <;> (try split) <;> omega
  · rw [imin_toInt, hn]; split <;> omega
theorem wayR (F : Nat → Int32) (a b : Int32) : ∃ j : Nat, j ≤ 12 ∧ cWay F a b = nI j := by
  unfold cWay
  split
  · exact clampR _ 12 (by decide)
  · exact ⟨0, by decide, rfl⟩
theorem brR (b x : Int32) : ∃ j : Nat, j ≤ 1000 ∧ cBr b x = nI j := clampR _ 1000 (by decide)
theorem ropeR {ro : Nat} (h10 : 10 ≤ ro) (h : ro ≤ 400) : ∃ j : Nat, 10 ≤ j ∧ j ≤ ro ∧ cRope (nI ro) = nI j := by
  have e1 : nI ro / 10 = nI (ro / 10) := pk_div (d := 10) (by omega) (by decide) (by decide)
  have e2 : nI ro - nI (ro / 10) = nI (ro - ro / 10) := pk_sub (by omega)
  have e3 : (nI (ro - ro / 10)).toInt = ((ro - ro / 10 : Nat) : Int) := nI_toInt (by omega)
  have e4 : (10 : Int32).toInt = 10 := by decide
  unfold cRope
  rw [e1, e2]
  have h1 : (imax 10 (nI (ro - ro / 10))).toInt = if (10 : Int) < ((ro - ro / 10 : Nat) : Int) then ((ro - ro / 10 : Nat) : Int) else 10 := by rw [imax_toInt, e3, e4]
  obtain ⟨j, hj, ej⟩ := nI_rng (x := imax 10 (nI (ro - ro / 10))) (N := ro) (by rw [h1]; split <;> omega) (by rw [h1]; split <;> omega)
  refine ⟨j, ?_, hj, ej⟩
  have h2 : (imax 10 (nI (ro - ro / 10))).toInt = (j : Int) := by rw [ej]; exact nI_toInt (by omega)
  rw [h1] at h2
  split at h2 <;> omega
theorem pullR {F : Nat → Int32} {a b e br : Nat} (h4 : F 4 = nI a) (h5 : F 5 = nI b) (h8 : F 8 = nI e) (h11 : F 11 = nI br) (ha : a ≤ 9) (hb : b ≤ 20) (he : e ≤ 10) (hbr : br ≤ 1000) : ¬ cPull F < 0 := by
  have e1 : (500 : Int32) + nI br = nI (500 + br) := nI_add 500 br
  have h1 : a * b ≤ 9 * 20 := Nat.mul_le_mul ha hb
  have h2 : a * b * e ≤ 9 * 20 * 10 := Nat.mul_le_mul h1 he
  have h3 : a * b * e * (500 + br) ≤ 9 * 20 * 10 * 1500 := Nat.mul_le_mul h2 (by omega)
  have e2 : nI (a * b * e * (500 + br)) / 5000 = nI (a * b * e * (500 + br) / 5000) := pk_div (d := 5000) (by omega) (by decide) (by decide)
  have h4' : a * b * e * (500 + br) / 5000 ≤ a * b * e * (500 + br) := Nat.div_le_self _ _
  unfold cPull
  rw [h4, h5, h8, h11, e1, pk_mul, pk_mul, pk_mul, e2]
  exact nI_pos (by omega)
/-- the drag is no less than a tenth of the weight -/
theorem dragR {F P : Nat → Int32} {n w : Nat} {gs gf : Int32} (h2 : F 2 = nI w) (hw : w ≤ 99) (hn : n ≤ 8) (hs : -5 ≤ gs.toInt ∧ gs.toInt ≤ 5) (hf : 0 ≤ gf.toInt ∧ gf.toInt ≤ 9) : ¬ cDrag F P n gs gf < nI w / 10 := by
  have hwT : (nI w).toInt = (w : Int) := nI_toInt (by omega)
  have e10 : nI w / 10 = nI (w / 10) := pk_div (d := 10) (by omega) (by decide) (by decide)
  have hw10 : (nI (w / 10)).toInt = ((w / 10 : Nat) : Int) := nI_toInt (by omega)
  have c10 : (10 : Int32).toInt = 10 := by decide
  have c4 : (4 : Int32).toInt = 4 := by decide
  have c20 : (20 : Int32).toInt = 20 := by decide
  have c6 : (6 : Int32).toInt = 6 := by decide
  have c2 : (2 : Int32).toInt = 2 := by decide
  have c0 : (0 : Int32).toInt = 0 := by decide
  obtain ⟨f, hf9, ef⟩ := nI_rng (N := 9) hf.1 hf.2
  have a1 : (10 * gs).toInt = 10 * gs.toInt := by rw [i_mul (by rw [c10]; omega), c10]
  have a2 : (4 * gf).toInt = 4 * gf.toInt := by rw [i_mul (by rw [c4]; omega), c4]
  have a3 : (20 + 10 * gs).toInt = 20 + 10 * gs.toInt := by rw [i_add (by rw [c20]; omega) (by rw [a1]; omega), a1, c20]
  have a4 : (20 + 10 * gs + 4 * gf).toInt = 20 + 10 * gs.toInt + 4 * gf.toInt := by rw [i_add (by rw [a3]; omega) (by rw [a2]; omega), a3, a2]
  obtain ⟨z, hz⟩ : ∃ z : Int, z = 20 + 10 * gs.toInt + 4 * gf.toInt := ⟨_, rfl⟩
  have hz1 : -30 ≤ z ∧ z ≤ 106 := by omega
  have hwz : -2970 ≤ (w : Int) * z ∧ (w : Int) * z ≤ 10494 := by
    have g1 : (w : Int) * z ≤ (w : Int) * 106 := Int.mul_le_mul_of_nonneg_left hz1.2 (by omega)
    have g2 : (w : Int) * (-30) ≤ (w : Int) * z := Int.mul_le_mul_of_nonneg_left hz1.1 (by omega)
    omega
  have a5 : (nI w * (20 + 10 * gs + 4 * gf)).toInt = (w : Int) * z := by rw [i_mul (by rw [hwT, a4, ← hz]; omega), hwT, a4, hz]
  have a6 := i_div10 (a := nI w * (20 + 10 * gs + 4 * gf)) (by rw [a5]; omega)
  rw [a5] at a6
  have hbare : 0 ≤ (cBare (F 2) gs gf).toInt ∧ (cBare (F 2) gs gf).toInt ≤ 1049 := by
    unfold cBare
    rw [h2, imax_toInt, c0]
    rcases Int.lt_or_le ((w : Int) * z) 0 with q | q
    · have := a6.2 q
      split <;> omega
    · have := a6.1 q
      split <;> omega
  have b1 : gf / 2 = nI (f / 2) := by rw [ef]; exact nI_half f (by omega)
  have b2 : (6 : Int32) - nI (f / 2) = nI (6 - f / 2) := pk_sub (a := 6) (by omega)
  have b3 : nI w * nI (6 - f / 2) = nI (w * (6 - f / 2)) := pk_mul _ _
  have b4 : w * (6 - f / 2) ≤ 99 * 6 := Nat.mul_le_mul hw (by omega)
  have b5 : nI (w * (6 - f / 2)) / 10 = nI (w * (6 - f / 2) / 10) := pk_div (d := 10) (by omega) (by decide) (by decide)
  obtain ⟨sv, hsv⟩ : ∃ sv, sv = w * (6 - f / 2) / 10 := ⟨_, rfl⟩
  have hsv2 : sv ≤ 59 := by rw [hsv]; omega
  have hu := cnt_le (fun k => decide (cSide F (P k) = 0)) n
  have hd : ∀ u : Nat, u ≤ 8 → (w / 10 : Nat) ≤ (cDr (F 2) gs gf (nI u)).toInt ∧ (cDr (F 2) gs gf (nI u)).toInt ≤ 1049 := by
    intro u hu8
    have d1 : (nI u).toInt = (u : Int) := nI_toInt (by omega)
    have d2 : 0 ≤ (imin (nI u) 4).toInt ∧ (imin (nI u) 4).toInt ≤ 4 := by rw [imin_toInt, d1, c4]; split <;> omega
    obtain ⟨m, hm, em⟩ := nI_rng (N := 4) d2.1 d2.2
    have d3 : m * sv ≤ 4 * 59 := Nat.mul_le_mul hm hsv2
    have d4 : (nI (m * sv)).toInt = ((m * sv : Nat) : Int) := nI_toInt (by omega)
    unfold cDr
    rw [b1, b2, h2, b3, b5, ← hsv, em, pk_mul, e10, ← h2, imax_toInt, hw10, i_sub (by omega) (by rw [d4]; omega), d4]
    split <;> omega
  obtain ⟨d5, d6⟩ := hd (cLie F P n 0) (by unfold cLie; omega)
  rw [e10, Int32.lt_iff_toInt_lt, hw10]
  unfold cDrag
  split
  · rw [i_mul (by rw [c2]; omega), c2]; omega
  · omega
/-! p20: a team between two ticks -/
def TFx (F : Nat → Int32) (ln w n nh : Nat) : Prop := F 1 = nI ln ∧ F 2 = nI w ∧ F 3 = nI n ∧ F 6 = nI nh ∧ ∃ a b e g : Nat, F 4 = nI a ∧ F 5 = nI b ∧ F 8 = nI e ∧ F 9 = nI g ∧ a ≤ 9 ∧ b ≤ 20 ∧ e ≤ 10 ∧ 1 ≤ g ∧ g ≤ 40
def RG (ln w n nh : Nat) : Prop := (20 ≤ ln ∧ ln ≤ 80) ∧ (10 ≤ w ∧ w ≤ 99) ∧ n ≤ 8 ∧ nh ≤ 3
def TVx (F : Nat → Int32) (tk : Nat) : Prop := (∃ fr : Nat, F 10 = nI fr ∧ fr ≤ 12 * tk) ∧ (∃ br : Nat, F 11 = nI br ∧ br ≤ 1000) ∧ (∃ ro : Nat, F 12 = nI ro ∧ 10 ≤ ro ∧ ro ≤ 400) ∧ (∃ kn : Nat, F 13 = nI kn ∧ kn ≤ 14) ∧ ∃ bk : Nat, F 14 = nI bk ∧ bk ≤ tk
def TEn (F : Nat → Int32) (tk : Nat) (len : Int32) : Prop := (F 16 = -1 ∧ F 10 < len) ∨ ((∃ en : Nat, F 16 = nI en ∧ en ≤ tk) ∧ ¬ F 10 < len)
def PLI (n nh : Nat) (B : Int) (P L : Nat → Int32) : Prop := (∀ k, k < n → P k = -9999 ∨ (-80 ≤ (P k).toInt ∧ (P k).toInt ≤ B)) ∧ ∀ k, k < n → P k = -9999 → ∃ r, r < nh ∧ L r = nI k
def TI (T : TV) (ln w n nh tk : Nat) (len : Int32) : Prop := TFx T.1 ln w n nh ∧ TVx T.1 tk ∧ TEn T.1 tk len ∧ PLI n nh (12 * tk + 40) T.2.1 T.2.2.1
theorem TFx.cong {F F' : Nat → Int32} {ln w n nh : Nat} (h : TFx F ln w n nh) (e : ∀ j, j < 10 → F' j = F j) : TFx F' ln w n nh := by
  obtain ⟨h1, h2, h3, h4, a, b, c, g, h5, h6, h7, h8, h9⟩ := h
  exact ⟨by rw [e 1 (by decide)]; exact h1, by rw [e 2 (by decide)]; exact h2, by rw [e 3 (by decide)]; exact h3, by rw [e 6 (by decide)]; exact h4, a, b, c, g, by rw [e 4 (by decide)]; exact h5, by rw [e 5 (by decide)]; exact h6, by rw [e 8 (by decide)]; exact h7, by rw [e 9 (by decide)]; exact h8, h9⟩
theorem PLI.mono {n nh : Nat} {B C : Int} {P L : Nat → Int32} (h : PLI n nh B P L) (hBC : B ≤ C) : PLI n nh C P L :=
  ⟨fun k hk => (h.1 k hk).elim Or.inl (fun z => Or.inr ⟨z.1, by omega⟩), h.2⟩
theorem m9999 : (-9999 : Int32).toInt = -9999 := by decide
theorem side_0 {F : Nat → Int32} {x : Int32} (h : cSide F x = 0) : ¬ x = -9999 ∧ ¬ x < F 10 - F 1 ∧ ¬ F 10 < x := by
  unfold cSide at h
  split at h
  · exact absurd h (by decide)
  · split at h
    · exact absurd h (by decide)
    · split at h
      · exact absurd h (by decide)
      · exact ⟨by assumption, by assumption, by assumption⟩
theorem move_pl {F P L : Nat → Int32} {n nh fr j : Nat} {B : Int} (h : PLI n nh B P L) (hf : F 10 = nI fr) (hfr : fr ≤ 2000) (hj : F 15 = nI j) (hj12 : j ≤ 12) (hB : (fr : Int) + 6 ≤ B + 12) : PLI n nh (B + 12) (cMoveP F P n) L := by
  have hfT : (nI fr).toInt = (fr : Int) := nI_toInt (by omega)
  have hjT : (nI (j / 2)).toInt = ((j / 2 : Nat) : Int) := nI_toInt (by omega)
  have key : ∀ k, k < n → cSide F (P k) = 0 → -80 ≤ (P k + F 15 / 2).toInt ∧ (P k + F 15 / 2).toInt ≤ B + 12 := fun k hk c => by
    obtain ⟨c1, c2, c3⟩ := side_0 c
    rcases h.1 k hk with z | z
    · exact absurd z c1
    · rw [hf, Int32.lt_iff_toInt_lt, hfT] at c3
      rw [hj, nI_half j (by omega), i_add (by omega) (by omega), hjT]
      omega
  refine ⟨fun k hk => ?_, fun k hk e => ?_⟩
  · unfold cMoveP
    by_cases c : k < n ∧ cSide F (P k) = 0
    · rw [if_pos c]; exact Or.inr (key k hk c.2)
    · rw [if_neg c]
      exact (h.1 k hk).elim Or.inl (fun z => Or.inr ⟨z.1, by omega⟩)
  · unfold cMoveP at e
    by_cases c : k < n ∧ cSide F (P k) = 0
    · rw [if_pos c] at e
      have := key k hk c.2
      rw [e, m9999] at this
      omega
    · rw [if_neg c] at e
      exact h.2 k hk e
theorem run_pl {F : Nat → Int32} {n nh r m : Nat} {B : Int} {X : (Nat → Int32) × (Nat → Int32) × (Nat → Int32)} (h : PLI n nh B X.1 X.2.1) (hn : n ≤ 8) (hr : r < nh) (hm : F 10 + F 9 = nI m) (hm2 : m ≤ 10000) (hB : (m : Int) ≤ B) : PLI n nh B (cRun F n r X).1 (cRun F n r X).2.1 := by
  unfold cRun
  by_cases c : X.2.1 r = -1
  · rw [if_pos c]
    by_cases d : ¬ (cLB F X.1 n).1 < 0 ∧ (cLB F X.1 n).1 < 8
    · rw [if_pos d]
      rcases cLB_spec F X.1 n with q | ⟨j, q1, q2⟩
      · exact absurd (by rw [q.1]; decide) d.1
      · have hj : j < n := q2.1
        have e1 : (cLB F X.1 n).1 = nI j := by rw [q1]
        rw [e1, nI_clamp (show j < 2 ^ 31 by omega)]
        refine ⟨fun k hk => ?_, fun k hk e => ?_⟩
        · show upd X.1 j (-9999) k = _ ∨ _
          by_cases ek : k = j
          · subst ek; rw [pk_us]; exact Or.inl rfl
          · show upd X.1 j (-9999) k = -9999 ∨ (-80 ≤ (upd X.1 j (-9999) k).toInt ∧ (upd X.1 j (-9999) k).toInt ≤ B)
            rw [pk_un ek]; exact h.1 k hk
        · show ∃ q, q < nh ∧ upd X.2.1 r (nI j) q = nI k
          by_cases ek : k = j
          · subst ek; exact ⟨r, hr, pk_us⟩
          · have e2 : X.1 k = -9999 := by
              have e3 : upd X.1 j (-9999) k = -9999 := e
              rw [pk_un ek] at e3; exact e3
            obtain ⟨q, hq, e4⟩ := h.2 k hk e2
            refine ⟨q, hq, ?_⟩
            rw [pk_un (fun z => by subst z; rw [c] at e4; exact nI_ne_m1 (by omega) e4.symm)]
            exact e4
    · rw [if_neg d]; exact h
  · rw [if_neg c]
    by_cases d : ¬ 0 < X.2.2 r - 1 ∧ ¬ X.2.1 r < 0 ∧ X.2.1 r < 8
    · rw [if_pos d]
      obtain ⟨j, hj, ej⟩ := sp_ix d.2.1 d.2.2
      rw [ej, nI_clamp (show j < 2 ^ 31 by omega)]
      have hmT : (nI m).toInt = (m : Int) := nI_toInt (by omega)
      refine ⟨fun k hk => ?_, fun k hk e => ?_⟩
      · show upd X.1 j (F 10 + F 9) k = -9999 ∨ (-80 ≤ (upd X.1 j (F 10 + F 9) k).toInt ∧ (upd X.1 j (F 10 + F 9) k).toInt ≤ B)
        by_cases ek : k = j
        · subst ek; rw [pk_us, hm, hmT]; exact Or.inr ⟨by omega, hB⟩
        · rw [pk_un ek]; exact h.1 k hk
      · show ∃ q, q < nh ∧ upd X.2.1 r (-1) q = nI k
        have e3 : upd X.1 j (F 10 + F 9) k = -9999 := e
        by_cases ek : k = j
        · subst ek
          rw [pk_us, hm] at e3
          have := congrArg Int32.toInt e3
          rw [hmT, m9999] at this
          omega
        · rw [pk_un ek] at e3
          obtain ⟨q, hq, e4⟩ := h.2 k hk e3
          refine ⟨q, hq, ?_⟩
          rw [pk_un (fun z => by subst z; rw [ej] at e4; exact ek (nI_inj' (by omega) (by omega) e4).symm)]
          exact e4
    · rw [if_neg d]; exact h
theorem send_pl {F : Nat → Int32} {n nh m : Nat} {B : Int} {X : (Nat → Int32) × (Nat → Int32) × (Nat → Int32)} (h : PLI n nh B X.1 X.2.1) (hn : n ≤ 8) (hm : F 10 + F 9 = nI m) (hm2 : m ≤ 10000) (hB : (m : Int) ≤ B) : ∀ r, r ≤ nh → PLI n nh B (cSend F n X r).1 (cSend F n X r).2.1
  | 0, _ => h
  | r + 1, hr => run_pl (send_pl h hn hm hm2 hB r (by omega)) hn (by omega) hm hm2 hB
/-- how far a team goes in the next tick -/
def wayT (S U V : Nat → Int32) (ns : Nat) (T : TV) : Int32 := if T.1 16 < 0 ∧ T.1 13 = 0 ∧ ¬ T.1 12 < cPull T.1 then cWay T.1 (cPull T.1) (cDragT S U V ns T) else 0
/-- what the law asks of a tick -/
def TkF (T T' : TV) (tk : Nat) (wy : Int32) : Prop := T'.1 10 = T.1 10 + wy ∧ (∃ j : Nat, j ≤ 12 ∧ wy = nI j) ∧ (∃ a b : Nat, T.1 12 = nI a ∧ T'.1 12 = nI b ∧ b ≤ a ∧ a ≤ 400) ∧ (∃ p q : Nat, T.1 14 = nI p ∧ T'.1 14 = nI q ∧ p + (if T'.1 12 < T.1 12 then 1 else 0) ≤ q ∧ q ≤ tk + 1) ∧ (¬ T.1 16 < 0 → T'.1 16 = T.1 16 ∧ wy = 0) ∧ (T.1 16 < 0 → T'.1 16 < 0 ∨ T'.1 16 = nI (tk + 1))
theorem TEn.lt {F : Nat → Int32} {tk : Nat} {len : Int32} (h : TEn F tk len) (htk : tk ≤ 1000) : F 16 < 0 ↔ F 16 = -1 := by
  constructor
  · intro z
    rcases h with q | ⟨⟨en, q, _⟩, _⟩
    · exact q.1
    · rw [q] at z; exact absurd z (nI_pos (by omega))
  · intro z; rw [z]; decide
theorem TEn.e {F : Nat → Int32} {tk : Nat} {len : Int32} (h : TEn F tk len) (htk : tk ≤ 1000) : cE F = true ↔ ¬ F 16 < 0 := by
  rw [h.lt htk]; unfold cE; exact decide_eq_true_iff
theorem tick_all {T : TV} {ln w n nh tk ns : Nat} {S U V : Nat → Int32} {len : Int32} (hR : RG ln w n nh) (h : TI T ln w n nh tk len) (htk : tk < 120) :
    TI (cTick n nh S U V ns len (nI (tk + 1)) T) ln w n nh (tk + 1) len ∧ TkF T (cTick n nh S U V ns len (nI (tk + 1)) T) tk (wayT S U V ns T) := by
  obtain ⟨hF, ⟨⟨fr, h10, hfr⟩, ⟨br, h11, hbr⟩, ⟨ro, h12, hro1, hro2⟩, ⟨kn, h13, hkn⟩, ⟨bk, h14, hbk⟩⟩, hE, hP⟩ := id h
  have hTF := hF.cong (F' := (cTick n nh S U V ns len (nI (tk + 1)) T).1) (fun j hj => cTick_of hj)
  by_cases cE1 : cE T.1 = true
  · have e1 : cTick n nh S U V ns len (nI (tk + 1)) T = T := if_pos cE1
    have c16 := (hE.e (by omega)).mp cE1
    rw [e1]
    have ew : wayT S U V ns T = 0 := if_neg (fun z => c16 z.1)
    refine ⟨⟨hF, ⟨⟨fr, h10, by omega⟩, ⟨br, h11, hbr⟩, ⟨ro, h12, hro1, hro2⟩, ⟨kn, h13, hkn⟩, ⟨bk, h14, by omega⟩⟩, ?_, hP.mono (by omega)⟩, ?_⟩
    · rcases hE with q | ⟨⟨en, q1, q2⟩, q3⟩
      · exact Or.inl q
      · exact Or.inr ⟨⟨en, q1, by omega⟩, q3⟩
    · rw [ew]
      exact ⟨(Int32.add_zero _).symm, ⟨0, by decide, rfl⟩, ⟨ro, ro, h12, h12, Nat.le_refl _, hro2⟩, ⟨bk, bk, h14, h14, by rw [if_neg Int32.lt_irrefl]; omega, by omega⟩, fun _ => ⟨rfl, rfl⟩, fun z => absurd z c16⟩
  · have c16 : T.1 16 < 0 := Classical.byContradiction fun z => cE1 ((hE.e (by omega)).mpr z)
    have h16 : T.1 16 = -1 := (hE.lt (by omega)).mp c16
    have hlt : T.1 10 < len := by
      rcases hE with q | ⟨⟨en, q1, q2⟩, q3⟩
      · exact q.2
      · rw [q1] at c16; exact absurd c16 (nI_pos (by omega))
    by_cases c : 0 < cSnap T.1 13
    · have e1 : cTick n nh S U V ns len (nI (tk + 1)) T = (cKnot (cSnap T.1), T.2) := (if_neg cE1).trans (if_pos c)
      rw [e1] at hTF ⊢
      obtain ⟨b2, hb2, eb2⟩ := brR (cSnap T.1 11) 0
      have f11 : cKnot (cSnap T.1) 11 = nI b2 := eb2
      have s10 : cSnap T.1 10 = T.1 10 := cSnap_of (by decide) (by decide) (by decide)
      have s16 : cSnap T.1 16 = T.1 16 := cSnap_of (by decide) (by decide) (by decide)
      have f10 : cKnot (cSnap T.1) 10 = T.1 10 := s10
      have f16 : cKnot (cSnap T.1) 16 = T.1 16 := s16
      have hEn : TEn (cKnot (cSnap T.1)) (tk + 1) len := Or.inl ⟨f16.trans h16, by rw [f10]; exact hlt⟩
      by_cases d : T.1 13 = 0 ∧ T.1 12 < cPull T.1
      · have es : cSnap T.1 = cSnapF T.1 := if_pos d
        obtain ⟨r2, hr1, hr2, er2⟩ := ropeR hro1 hro2
        have f12 : cKnot (cSnap T.1) 12 = nI r2 := by rw [es]; show cRope (T.1 12) = _; rw [h12]; exact er2
        have f13 : cKnot (cSnap T.1) 13 = nI 14 := by rw [es]; show (15 : Int32) - 1 = nI 14; decide
        have f14 : cKnot (cSnap T.1) 14 = nI (bk + 1) := by rw [es]; show T.1 14 + 1 = _; rw [h14]; exact nI_1 bk
        have ew : wayT S U V ns T = 0 := if_neg (fun z => z.2.2 d.2)
        refine ⟨⟨hTF, ⟨⟨fr, f10.trans h10, by omega⟩, ⟨b2, f11, hb2⟩, ⟨r2, f12, hr1, by omega⟩, ⟨14, f13, by decide⟩, ⟨bk + 1, f14, by omega⟩⟩, hEn, hP.mono (by omega)⟩, ?_⟩
        rw [ew]
        refine ⟨f10.trans (Int32.add_zero _).symm, ⟨0, by decide, rfl⟩, ⟨ro, r2, h12, f12, hr2, hro2⟩, ⟨bk, bk + 1, h14, f14, ?_, by omega⟩, fun z => absurd c16 z, fun _ => Or.inl (by show cKnot (cSnap T.1) 16 < 0; rw [f16]; exact c16)⟩
        split <;> omega
      · have es : cSnap T.1 = T.1 := if_neg d
        have f12 : cKnot (cSnap T.1) 12 = nI ro := by rw [es]; exact h12
        have hk1 : 0 < kn := by rw [es, h13] at c; exact sp_pos c (by omega)
        have f13 : cKnot (cSnap T.1) 13 = nI (kn - 1) := by rw [es]; show T.1 13 - 1 = _; rw [h13]; exact pk_sub (a := kn) (b := 1) (by omega)
        have f14 : cKnot (cSnap T.1) 14 = nI bk := by rw [es]; exact h14
        have ew : wayT S U V ns T = 0 := if_neg (fun z => by have := z.2.1; rw [h13] at this; exact nI_ne0 hk1 (by omega) this)
        refine ⟨⟨hTF, ⟨⟨fr, f10.trans h10, by omega⟩, ⟨b2, f11, hb2⟩, ⟨ro, f12, hro1, hro2⟩, ⟨kn - 1, f13, by omega⟩, ⟨bk, f14, by omega⟩⟩, hEn, hP.mono (by omega)⟩, ?_⟩
        rw [ew]
        refine ⟨f10.trans (Int32.add_zero _).symm, ⟨0, by decide, rfl⟩, ⟨ro, ro, h12, f12, Nat.le_refl _, hro2⟩, ⟨bk, bk, h14, f14, ?_, by omega⟩, fun z => absurd c16 z, fun _ => Or.inl (by show cKnot (cSnap T.1) 16 < 0; rw [f16]; exact c16)⟩
        show bk + (if cKnot (cSnap T.1) 12 < T.1 12 then 1 else 0) ≤ bk
        rw [f12, h12, if_neg Int32.lt_irrefl]
        exact Nat.le_refl _
    · have d : ¬ (T.1 13 = 0 ∧ T.1 12 < cPull T.1) := fun z => c (by
        have es : cSnap T.1 = cSnapF T.1 := if_pos z
        rw [es]; show (0 : Int32) < 15; decide)
      have es : cSnap T.1 = T.1 := if_neg d
      have c13 : T.1 13 = 0 := by
        rw [es, h13] at c
        have := sp_zero c (by omega)
        rw [h13, this]; rfl
      have cgo : T.1 16 < 0 ∧ T.1 13 = 0 ∧ ¬ T.1 12 < cPull T.1 := ⟨c16, c13, fun z => d ⟨c13, z⟩⟩
      have e1 : cTick n nh S U V ns len (nI (tk + 1)) T = cTickA n nh len (nI (tk + 1)) (cT3 n S U V ns (cPull T.1) (cSnap T.1) T.2.1) T.2.1 T.2.2.1 T.2.2.2 := (if_neg cE1).trans (if_neg c)
      have ecn : cN T = n := by unfold cN; rw [hF.2.2.1]; exact nI_clamp (by have := hR.2.2.1; omega)
      have ew : wayT S U V ns T = cWay T.1 (cPull T.1) (cDragT S U V ns T) := if_pos cgo
      obtain ⟨j, hj, ej⟩ := wayR T.1 (cPull T.1) (cDragT S U V ns T)
      have e3 : cT3 n S U V ns (cPull T.1) (cSnap T.1) T.2.1 = upd T.1 15 (nI j) := by
        unfold cT3
        rw [es]
        have : cDragT S U V ns T = cDrag T.1 T.2.1 n (cGr S U ns (T.1 10)) (cGr S V ns (T.1 10)) := by unfold cDragT; rw [ecn]
        rw [← this, ej]
      rw [e3] at e1
      rw [e1] at hTF ⊢
      rw [ew, ej]
      obtain ⟨a, b, e, g, -, -, -, g9, -, -, -, hg1, hg2⟩ := hF.2.2.2.2
      obtain ⟨Y, hY⟩ : ∃ Y, Y = cT4 (upd T.1 15 (nI j)) := ⟨_, rfl⟩
      have y10 : Y 10 = nI (fr + j) := by rw [hY]; show T.1 10 + nI j = _; rw [h10, nI_add]
      have y9 : Y 9 = nI g := by rw [hY]; exact g9
      have y12 : Y 12 = nI ro := by rw [hY]; exact h12
      have y13 : Y 13 = nI kn := by rw [hY]; exact h13
      have y14 : Y 14 = nI bk := by rw [hY]; exact h14
      have y16 : Y 16 = -1 := by rw [hY]; exact h16
      have hm : Y 10 + Y 9 = nI (fr + j + g) := by rw [y10, y9, nI_add]
      have hmv := move_pl (F := upd T.1 15 (nI j)) (P := T.2.1) (L := T.2.2.1) (n := n) (nh := nh) (B := 12 * tk + 40) hP (show upd T.1 15 (nI j) 10 = nI fr from h10) (by omega) (show upd T.1 15 (nI j) 15 = nI j from rfl) hj (by omega)
      have hsd := send_pl (F := Y) (n := n) (nh := nh) (m := fr + j + g) (B := 12 * tk + 40 + 12) (X := (cMoveP (upd T.1 15 (nI j)) T.2.1 n, T.2.2.1, T.2.2.2)) hmv hR.2.2.1 hm (by omega) (by omega) nh (Nat.le_refl _)
      obtain ⟨b2, hb2, eb2⟩ := brR (Y 11) (Y 8)
      have eA : cTickA n nh len (nI (tk + 1)) (upd T.1 15 (nI j)) T.2.1 T.2.2.1 T.2.2.2 = (cT6 len (nI (tk + 1)) (cT5 (Y 8) Y), cSend Y n (cMoveP (upd T.1 15 (nI j)) T.2.1 n, T.2.2.1, T.2.2.2) nh) := by rw [hY]; rfl
      rw [eA] at hTF ⊢
      obtain ⟨Z, hZ⟩ : ∃ Z, Z = cT5 (Y 8) Y := ⟨_, rfl⟩
      rw [← hZ] at hTF ⊢
      have z10 : Z 10 = nI (fr + j) := by rw [hZ]; exact y10
      have z11 : Z 11 = nI b2 := by rw [hZ]; exact eb2
      have z12 : Z 12 = nI ro := by rw [hZ]; exact y12
      have z13 : Z 13 = nI kn := by rw [hZ]; exact y13
      have z14 : Z 14 = nI bk := by rw [hZ]; exact y14
      have z16 : Z 16 = -1 := by rw [hZ]; exact y16
      have k6 : ∀ i, i ≠ 16 → cT6 len (nI (tk + 1)) Z i = Z i := fun i hi => by
        unfold cT6; split
        · rfl
        · exact pk_un hi
      have hV : TVx (cT6 len (nI (tk + 1)) Z) (tk + 1) := ⟨⟨fr + j, (k6 10 (by decide)).trans z10, by omega⟩, ⟨b2, (k6 11 (by decide)).trans z11, hb2⟩, ⟨ro, (k6 12 (by decide)).trans z12, hro1, hro2⟩, ⟨kn, (k6 13 (by decide)).trans z13, hkn⟩, ⟨bk, (k6 14 (by decide)).trans z14, by omega⟩⟩
      have hPL : PLI n nh (12 * ((tk + 1 : Nat) : Int) + 40) (cSend Y n (cMoveP (upd T.1 15 (nI j)) T.2.1 n, T.2.2.1, T.2.2.2) nh).1 (cSend Y n (cMoveP (upd T.1 15 (nI j)) T.2.1 n, T.2.2.1, T.2.2.2) nh).2.1 := hsd.mono (by omega)
      have hEn : TEn (cT6 len (nI (tk + 1)) Z) (tk + 1) len ∧ (cT6 len (nI (tk + 1)) Z 16 < 0 ∨ cT6 len (nI (tk + 1)) Z 16 = nI (tk + 1)) := by
        unfold TEn
        rw [k6 10 (by decide)]
        by_cases q : Z 10 < len
        · have e6 : cT6 len (nI (tk + 1)) Z = Z := if_pos q
          rw [e6]
          exact ⟨Or.inl ⟨z16, q⟩, Or.inl (by rw [z16]; decide)⟩
        · have e6 : cT6 len (nI (tk + 1)) Z = upd Z 16 (nI (tk + 1)) := if_neg q
          rw [e6]
          exact ⟨Or.inr ⟨⟨tk + 1, pk_us, Nat.le_refl _⟩, q⟩, Or.inr pk_us⟩
      refine ⟨⟨hTF, hV, hEn.1, hPL⟩, ?_⟩
      refine ⟨?_, ⟨j, hj, rfl⟩, ⟨ro, ro, h12, (k6 12 (by decide)).trans z12, Nat.le_refl _, hro2⟩, ⟨bk, bk, h14, (k6 14 (by decide)).trans z14, ?_, by omega⟩, fun z => absurd c16 z, fun _ => hEn.2⟩
      · show cT6 len (nI (tk + 1)) Z 10 = _
        rw [k6 10 (by decide), z10, h10, nI_add]
      · show bk + (if cT6 len (nI (tk + 1)) Z 12 < T.1 12 then 1 else 0) ≤ bk
        rw [k6 12 (by decide), z12, h12, if_neg Int32.lt_irrefl]
        exact Nat.le_refl _
