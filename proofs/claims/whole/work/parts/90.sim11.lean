/-! The simulation: who is ahead, ranks, counts, what a team tells -/
theorem ahead_eq {F E A B : Nat → Int32} {o t : Nat} (ho : o < 6) (ht : t < 6) (hF : RelF F A) (hE : RelF E B) (h0 : F 0 = nI o) (h1 : E 0 = nI t) (hot : o = t → A = B) : cAhead F E = (decide (¬ o = t) && mAhead A B o t) := by
  unfold cAhead mAhead cE
  rw [hF.fin, hE.fin, hF.fro, hE.fro, h0, h1]
  have hlt : (nI o < nI t) ↔ o < t := nI_ltI (by omega) (by omega)
  by_cases e : o = t
  · have hAB := hot e
    subst e
    subst hAB
    simp
  · by_cases c1 : A 13 = -1 <;> by_cases c2 : B 13 = -1
    · simp [c1, c2, e, hlt]
    · simp [c1, c2, e, hlt, Ne.symm c2]
    · simp [c1, c2, e, hlt]
    · by_cases c3 : A 13 = B 13
      · simp [c2, c3, e, hlt]
      · simp [c1, c2, c3, e, hlt]
theorem rank_eq {n : Nat} (hn : n ≤ 6) {T tv : Nat → TV} (h : Wd n T tv) {t : Nat} (ht : t < n) : cRankOf T (T (t + 2)).1 n = mRank tv n t := by
  unfold cRankOf mRank
  exact cnt_cong (fun o ho => ahead_eq (by omega) (by omega) (h.t ho).r.f (h.t ht).r.f (h o ho).2 (h t ht).2 (fun e => by rw [e]))
theorem at_eq {n : Nat} (hn : n ≤ 6) {T tv : Nat → TV} (h : Wd n T tv) {x : Nat} (hx : x < n) : cAtRank T n (nI x) = nI (mAt tv n (nI x)) := by
  have e : ft (fun t => decide (nI (cRankOf T (T (t + 2)).1 n) = nI x)) n = mAt tv n (nI x) := ft_cong (fun t ht => by rw [rank_eq hn h ht])
  obtain ⟨j, hj, hjr⟩ := mRank_at tv hx
  have hlt : mAt tv n (nI x) < n := ft_lt hj (decide_eq_true (by rw [hjr]))
  unfold cAtRank
  rw [e, if_pos hlt]
  exact (h _ hlt).2
theorem ended_eq {n : Nat} {T tv : Nat → TV} (h : Wd n T tv) : cEnded T n = mEnded tv n := by
  unfold cEnded mEnded
  exact cnt_cong (fun t ht => by show cE _ = _; unfold cE; rw [(h.t ht).r.f.fin])
theorem fronts_eq {n : Nat} {T tv : Nat → TV} (h : Wd n T tv) : ∀ i, i ≤ n → cFronts T i = mSum tv i
  | 0, _ => rfl
  | i + 1, hi => by
    show cFronts T i + (T (i + 2)).1 10 = mSum tv i + (tv i).1 9
    rw [fronts_eq h i (by omega), (h.t (by omega)).r.f.fro]
theorem count_eq {n : Nat} {T tv : Nat → TV} {KF MF : Nat → Int32} {tick : Int32} (h : Wd n T tv) (h1 : MF 1 = tick) (h2 : MF 2 = nI n) (h3 : MF 3 = KF 4) (h5 : MF 5 = KF 3) (h4 : MF 4 = cBroke T n) (w : Int32) : cCount KF T n tick w = mCount MF tv n w := by
  unfold cCount mCount
  rw [h1, h2, h3, h4, h5, ended_eq h]
theorem fact_eq {T M : TV} (h : Tm T M) {w : Int32} (hw : isIn w 0 11 = true) : cFact T.1 T.2.1 (cN T) w = mToldT M w := by
  unfold mToldT cFact mTold
  rw [h.cn, lie_eq h.r h.b, lie_eq h.r h.b, lie_eq h.r h.b, lie_eq h.r h.b, h.r.f.fro, h.r.f.bre, h.r.f.rop, h.r.f.kno, h.r.f.fin, h.r.f.eff, h.r.f.gap, h.r.f.way]
  by_cases c0 : w = 0
  · rw [if_pos c0, if_pos c0]
  · rw [if_neg c0, if_neg c0]
    by_cases c1 : w = 1
    · rw [if_pos c1, if_pos c1]
    · rw [if_neg c1, if_neg c1]
      by_cases c2 : w = 2
      · rw [if_pos c2, if_pos c2]
      · rw [if_neg c2, if_neg c2]
        by_cases c3 : w = 3
        · rw [if_pos c3, if_pos c3]
        · rw [if_neg c3, if_neg c3]
          by_cases c4 : w = 4
          · rw [if_pos c4, if_pos c4]
          · rw [if_neg c4, if_neg c4]
            by_cases c5 : w = 5
            · rw [if_pos c5, if_pos c5]
            · rw [if_neg c5, if_neg c5]
              by_cases c6 : w = 6
              · rw [if_pos c6, if_pos c6]
              · rw [if_neg c6, if_neg c6]
                by_cases c7 : w = 7
                · rw [if_pos c7, if_pos c7]
                · rw [if_neg c7, if_neg c7]
                  by_cases c8 : w = 8
                  · rw [if_pos c8, if_pos c8]
                  · rw [if_neg c8, if_neg c8]
                    by_cases c9 : w = 9
                    · rw [if_pos c9, if_pos c9]
                    · rw [if_neg c9, if_neg c9]
                      by_cases c10 : w = 10
                      · rw [if_pos c10, if_pos c10]
                      · rw [if_neg c10, if_neg c10]
                        obtain ⟨j, h1, h2, e⟩ := isIn_rng (a := 0) (b := 11) (by decide) (by decide) hw
                        have e11 : j = 11 := by
                          have n0 : j ≠ 0 := fun z => c0 (by rw [e, z]; rfl)
                          have n1 : j ≠ 1 := fun z => c1 (by rw [e, z]; rfl)
                          have n2 : j ≠ 2 := fun z => c2 (by rw [e, z]; rfl)
                          have n3 : j ≠ 3 := fun z => c3 (by rw [e, z]; rfl)
                          have n4 : j ≠ 4 := fun z => c4 (by rw [e, z]; rfl)
                          have n5 : j ≠ 5 := fun z => c5 (by rw [e, z]; rfl)
                          have n6 : j ≠ 6 := fun z => c6 (by rw [e, z]; rfl)
                          have n7 : j ≠ 7 := fun z => c7 (by rw [e, z]; rfl)
                          have n8 : j ≠ 8 := fun z => c8 (by rw [e, z]; rfl)
                          have n9 : j ≠ 9 := fun z => c9 (by rw [e, z]; rfl)
                          have n10 : j ≠ 10 := fun z => c10 (by rw [e, z]; rfl)
                          omega
                        rw [if_pos (show w = 11 by rw [e, e11]; rfl)]
theorem isIn_j {j b : Nat} (h : j < b) (hb : b < 1000000) : isIn (nI j) 0 (nI b - 1) = true := isIn_lt hb h
theorem facts_eq {T M : TV} (h : Tm T M) {j : Nat} (hj : j < 12) : cFact T.1 T.2.1 (cN T) (nI j) = mToldT M (nI j) :=
  fact_eq h (decide_eq_true ⟨nI_pos (by omega), fun z => absurd ((nI_ltI (a := 11) (b := j) (by decide) (by omega)).mp z) (by omega)⟩)
theorem dgL_cong {f g : Nat → Int32} (d : Int64) : ∀ i, (∀ k, k < i → f k = g k) → dgL f d i = dgL g d i
  | 0, _ => rfl
  | i + 1, h => by
    show dgL f d i * 31 + Int32.toInt64 (f i) = dgL g d i * 31 + Int32.toInt64 (g i)
    rw [dgL_cong d i (fun k hk => h k (by omega)), h i (by omega)]
theorem add_eq {T M : TV} (h : Tm T M) (d : Int64) : cAdd T.1 T.2.1 (cN T) d = mDg M d := by
  unfold cAdd mDg
  rw [dgL_cong d 12 (fun k hk => facts_eq h hk), h.cn]
  exact dgL_cong _ _ (fun k hk => h.r.p k hk)
theorem dig1_eq {n : Nat} {T tv : Nat → TV} {KF MF : Nat → Int32} {tick : Int32} (h : ∀ w, cCount KF T n tick w = mCount MF tv n w) : ∀ k, cDig1 KF T n tick k = dgL (fun w => mCount MF tv n (nI w)) 461 k
  | 0 => rfl
  | k + 1 => by
    show cDig1 KF T n tick k * 31 + Int32.toInt64 (cCount KF T n tick (nI k)) = dgL (fun w => mCount MF tv n (nI w)) 461 k * 31 + Int32.toInt64 (mCount MF tv n (nI k))
    rw [dig1_eq h k, h]
theorem dig2_eq {n : Nat} {T tv : Nat → TV} (h : Wd n T tv) (d : Int64) : ∀ i, i ≤ n → cDig2 T d i = mDgs tv d i
  | 0, _ => rfl
  | i + 1, hi => by
    show cAdd (T (i + 2)).1 (T (i + 2)).2.1 (cN (T (i + 2))) (cDig2 T d i) = mDg (tv i) (mDgs tv d i)
    rw [dig2_eq h d i (by omega), add_eq (h.t (by omega))]
theorem dig3_eq {n : Nat} (hn : n ≤ 6) {T tv : Nat → TV} (h : Wd n T tv) (d : Int64) : ∀ k, k ≤ n → cDig3 T n d k = dgL (fun r => nI (mAt tv n (nI r))) d k
  | 0, _ => rfl
  | k + 1, hk => by
    show cDig3 T n d k * 31 + Int32.toInt64 (cAtRank T n (nI k)) = dgL (fun r => nI (mAt tv n (nI r))) d k * 31 + Int32.toInt64 (nI (mAt tv n (nI k)))
    rw [dig3_eq hn h d k (by omega), at_eq hn h (by omega)]
theorem digest_eq {n : Nat} (hn : n ≤ 6) {T tv : Nat → TV} {KF MF : Nat → Int32} {tick : Int32} (h : Wd n T tv) (h1 : MF 1 = tick) (h2 : MF 2 = nI n) (h3 : MF 3 = KF 4) (h5 : MF 5 = KF 3) (h4 : MF 4 = cBroke T n) : cDigest KF T n tick = mDigest MF tv n := by
  unfold cDigest mDigest
  rw [dig1_eq (count_eq h h1 h2 h3 h5 h4), dig2_eq h _ n (Nat.le_refl n), dig3_eq hn h _ n (Nat.le_refl n)]
