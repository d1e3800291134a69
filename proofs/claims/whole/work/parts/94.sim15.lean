/-! The simulation: run, restart, and the calls that only read -/
section REL
variable {n ns tk : Nat} {KF S U V : Nat → Int32} {T : Nat → TV} {MF g : Nat → Int32} {tv : Nat → TV}
theorem q_run (h : Rel n ns tk KF S U V T MF g tv) (htk : tk ≤ 500000) (x : Int32) : Out hc12 (rRun x S U V ns (KF 4) (nI tk) T n) (mRunC x MF g ns n tv).1 ((mRunC x MF g ns n tv).2.1 0) (∃ tk2, tk2 ≤ tk + 500 ∧ nI tk + x = nI tk2 ∧ Rel n ns tk2 KF S U V (cRunT S U V ns (KF 4) (nI tk) T n x.toNatClampNeg) (mRunC x MF g ns n tv).2.1 g (mRunC x MF g ns n tv).2.2) (Rel n ns tk KF S U V T (mRunC x MF g ns n tv).2.1 g (mRunC x MF g ns n tv).2.2) := by
  have hn := h.n6
  by_cases c0 : isIn x 1 500 = true
  · obtain ⟨k, hk1, hk2, rfl⟩ := isIn_rng (a := 1) (b := 500) (by decide) (by decide) c0
    have ec : (nI k).toNatClampNeg = k := nI_clamp (by omega)
    by_cases c1 : nI n = 0
    · have e1 : rRun (nI k) S U V ns (KF 4) (nI tk) T n = .inr xISE := (if_pos c0).trans (if_pos c1)
      have e2 : mRunC (nI k) MF g ns n tv = (0, upd MF 0 2, tv) := (if_pos c0).trans (if_pos (h.m2.trans c1))
      rw [e1, e2]
      exact out_r kc12b (h.th 2)
    · have e1 : rRun (nI k) S U V ns (KF 4) (nI tk) T n = .inl (nI (cEnded (cRunT S U V ns (KF 4) (nI tk) T n k) n)) := ((if_pos c0).trans (if_neg c1)).trans (by rw [ec])
      have e2 : mRunC (nI k) MF g ns n tv = (nI (mEnded (mIt g ns n (upd MF 0 0, tv) k).2 n), (mIt g ns n (upd MF 0 0, tv) k).1, (mIt g ns n (upd MF 0 0, tv) k).2) := ((if_pos c0).trans (if_neg (fun z => c1 (h.m2.symm.trans z)))).trans (by rw [ec])
      have hr := run_wd (MF := upd MF 0 0) h.wd (h.gr.rel h.ns0) (by show (MF 3).toInt ≤ 2000; rw [h.m3]; exact h.len.2) h.m1 h.m4 k (by omega)
      have e3 : (upd MF 0 0) 3 = KF 4 := h.m3
      have e4 : (upd MF 0 0) 1 = nI tk := h.m1
      rw [e3, e4] at hr
      obtain ⟨h1, h2⟩ := hr
      have hkp : ∀ j, j ≠ 1 → j ≠ 4 → (mIt g ns n (upd MF 0 0, tv) k).1 j = upd MF 0 0 j := fun j a b => mIt_k a b k
      have h0 : (mIt g ns n (upd MF 0 0, tv) k).1 0 = 0 := (hkp 0 (by decide) (by decide)).trans rfl
      rw [e1, e2, ec, ended_eq h1]
      show Out hc12 _ _ ((mIt g ns n (upd MF 0 0, tv) k).1 0) _ _
      rw [h0]
      refine out_l ⟨tk + k, by omega, nI_add tk k, h.n6, h.2.1, h.k3, ?_, ?_, ?_, h.len, ?_, h2, h.gr, h1⟩
      · exact (hkp 2 (by decide) (by decide)).trans h.m2
      · show (mIt g ns n (upd MF 0 0, tv) k).1 1 = nI (tk + k)
        rw [it_tick k]
        show (upd MF 0 0) 1 + nI k = nI (tk + k)
        rw [e4, nI_add]
      · exact (hkp 3 (by decide) (by decide)).trans h.m3
      · exact (hkp 5 (by decide) (by decide)).trans h.m5
  · have e1 : rRun x S U V ns (KF 4) (nI tk) T n = .inr xIAE := if_neg c0
    have e2 : mRunC x MF g ns n tv = (0, upd MF 0 1, tv) := if_neg c0
    rw [e1, e2]
    exact out_r kc12a (h.th 1)
theorem cBroke_start : ∀ {i n : Nat}, i ≤ n → cBroke (eachT cStartN T n) i = 0
  | 0, _, _ => rfl
  | i + 1, n, hi => by
    show cBroke (eachT cStartN T n) i + (eachT cStartN T n (i + 2)).1 14 = 0
    rw [cBroke_start (by omega), eachT_t _ _ (show i < n by omega)]
    rfl
theorem q_restart (h : Rel n ns tk KF S U V T MF g tv) : Rel n ns 0 KF S U V (eachT cStartN T n) (mRestartF MF) g (mTv mBeginT tv n) := by
  refine ⟨h.n6, h.2.1, h.k3, h.m2, rfl, h.m3, h.len, h.m5, ?_, h.gr, fun t ht => ?_⟩
  · show (0 : Int32) = _
    rw [cBroke_start (Nat.le_refl n)]
  · rw [eachT_t _ _ ht, mTv_t _ _ ht]
    exact ⟨(h.wd.t ht).start, (h.wd t ht).2⟩
theorem q_count (h : Rel n ns tk KF S U V T MF g tv) (w : Int32) : Out hc1 (rCount w KF T n (nI tk)) (mCountC w MF tv n).1 ((mCountC w MF tv n).2 0) (Rel n ns tk KF S U V T (mCountC w MF tv n).2 g tv) (Rel n ns tk KF S U V T (mCountC w MF tv n).2 g tv) := by
  by_cases c1 : isIn w 0 5 = true
  · have e1 : rCount w KF T n (nI tk) = .inl (cCount KF T n (nI tk) w) := if_pos c1
    have e2 : mCountC w MF tv n = (mCount MF tv n w, upd MF 0 0) := if_pos c1
    rw [e1, e2, count_eq h.wd h.m1 h.m2 h.m3 (h.m5.trans h.k3.symm) h.m4]
    exact out_l (h.th 0)
  · have e1 : rCount w KF T n (nI tk) = .inr xIOB := if_neg c1
    have e2 : mCountC w MF tv n = (0, upd MF 0 1) := if_neg c1
    rw [e1, e2]
    exact out_r rfl (h.th 1)
theorem q_team (h : Rel n ns tk KF S U V T MF g tv) (x w : Int32) : Out hc1 (rTeam x w n T) (mTeamC x w MF tv).1 ((mTeamC x w MF tv).2 0) (Rel n ns tk KF S U V T (mTeamC x w MF tv).2 g tv) (Rel n ns tk KF S U V T (mTeamC x w MF tv).2 g tv) := by
  have hn := h.n6
  by_cases c0 : isIn x 0 (nI n - 1) = true
  · obtain ⟨i, hi, rfl⟩ := isIn_nat (by omega) c0
    have m0 : isIn (nI i) 0 (MF 2 - 1) = true := by rw [h.m2]; exact c0
    have ec : (nI i).toNatClampNeg = i := nI_clamp (by omega)
    by_cases c1 : isIn w 0 11 = true
    · have e1 : rTeam (nI i) w n T = .inl (cFact (T (i + 2)).1 (T (i + 2)).2.1 (cN (T (i + 2))) w) := ((if_pos c0).trans (if_pos c1)).trans (by rw [ec])
      have e2 : mTeamC (nI i) w MF tv = (mToldT (tv i) w, upd MF 0 0) := (if_pos (and2.mpr ⟨m0, c1⟩)).trans (by rw [ec])
      rw [e1, e2, fact_eq (h.wd.t hi) c1]
      exact out_l (h.th 0)
    · have e1 : rTeam (nI i) w n T = .inr xIOB := (if_pos c0).trans (if_neg c1)
      have e2 : mTeamC (nI i) w MF tv = (0, upd MF 0 1) := if_neg (fun z => c1 (and2.mp z).2)
      rw [e1, e2]
      exact out_r rfl (h.th 1)
  · have m0 : ¬ isIn x 0 (MF 2 - 1) = true := by rw [h.m2]; exact c0
    have e1 : rTeam x w n T = .inr xIOB := if_neg c0
    have e2 : mTeamC x w MF tv = (0, upd MF 0 1) := if_neg (fun z => m0 (and2.mp z).1)
    rw [e1, e2]
    exact out_r rfl (h.th 1)
theorem q_roller (h : Rel n ns tk KF S U V T MF g tv) (x k : Int32) : Out hcOA (rRoller x k n T) (mRollerC x k MF tv).1 ((mRollerC x k MF tv).2 0) (Rel n ns tk KF S U V T (mRollerC x k MF tv).2 g tv) (Rel n ns tk KF S U V T (mRollerC x k MF tv).2 g tv) := by
  have hn := h.n6
  by_cases c0 : isIn x 0 (nI n - 1) = true
  · obtain ⟨i, hi, rfl⟩ := isIn_nat (by omega) c0
    have m0 : isIn (nI i) 0 (MF 2 - 1) = true := by rw [h.m2]; exact c0
    have ec : (nI i).toNatClampNeg = i := nI_clamp (by omega)
    have hT := h.wd.t hi
    have hok := hT.ok.n
    by_cases c1 : isIn k 0 ((tv i).1 2 - 1) = true
    · have c1' := c1
      rw [hok.2] at c1'
      obtain ⟨j, hj, rfl⟩ := isIn_nat (by omega) c1'
      have ej : (nI j).toNatClampNeg = j := nI_clamp (by omega)
      have hq : ¬ (nI j < 0 ∨ ¬ nI j < (T (i + 2)).1 3 ∨ ¬ nI j < nI 8) := by
        rw [hT.r.f.rol, hok.2]
        rintro (q | q | q)
        · exact nI_pos (by omega) q
        · exact q ((nI_ltI (by omega) (by omega)).mpr hj)
        · exact q ((nI_ltI (by omega) (by decide)).mpr (by omega))
      by_cases c2 : mCar (tv i).2.2.1 (nI j) = true
      · have hp : (T (i + 2)).2.1 j = -9999 := (hT.r.p j hj).trans (if_pos c2)
        have e1 : rRoller (nI i) (nI j) n T = .inr xISE := by
          unfold rRoller
          rw [if_pos c0, ec, if_neg hq, ej, if_pos hp]
        have e2 : mRollerC (nI i) (nI j) MF tv = (0, upd MF 0 2) := by
          unfold mRollerC
          rw [ec, if_pos (and2.mpr ⟨m0, c1⟩), if_pos c2]
        rw [e1, e2]
        exact out_r kcOAc (h.th 2)
      · have hp : (T (i + 2)).2.1 j = (tv i).2.1 j := (hT.r.p j hj).trans (if_neg c2)
        have hb := hT.b.pla j hj (by simpa using c2)
        have hne : ¬ (T (i + 2)).2.1 j = -9999 := fun z => by
          rw [← hp, z, show (-9999 : Int32).toInt = -9999 from by decide] at hb
          omega
        have e1 : rRoller (nI i) (nI j) n T = .inl ((T (i + 2)).2.1 j) := by
          unfold rRoller
          rw [if_pos c0, ec, if_neg hq, ej, if_neg hne]
        have e2 : mRollerC (nI i) (nI j) MF tv = ((tv i).2.1 j, upd MF 0 0) := by
          unfold mRollerC
          rw [ec, if_pos (and2.mpr ⟨m0, c1⟩), if_neg c2, ej]
        rw [e1, e2, hp]
        exact out_l (h.th 0)
    · have hq : k < 0 ∨ ¬ k < (T (i + 2)).1 3 ∨ ¬ k < nI 8 := by
        rw [hT.r.f.rol, hok.2]
        rw [hok.2] at c1
        refine Classical.byContradiction fun z => c1 ?_
        have z1 : ¬ k < 0 := fun q => z (Or.inl q)
        have z2 : k < nI (mN (tv i)) := Classical.byContradiction fun q => z (Or.inr (Or.inl q))
        obtain ⟨j, hj, rfl⟩ := nat_of (b := mN (tv i)) (by omega) z1 z2
        exact isIn_lt (by omega) hj
      have e1 : rRoller (nI i) k n T = .inr xIOB := by
        unfold rRoller
        rw [if_pos c0, ec, if_pos hq]
      have e2 : mRollerC (nI i) k MF tv = (0, upd MF 0 1) := by
        unfold mRollerC
        rw [ec, if_neg (fun z => c1 (and2.mp z).2)]
      rw [e1, e2]
      exact out_r kcOAa (h.th 1)
  · have m0 : ¬ isIn x 0 (MF 2 - 1) = true := by rw [h.m2]; exact c0
    have e1 : rRoller x k n T = .inr xIOB := if_neg c0
    have e2 : mRollerC x k MF tv = (0, upd MF 0 1) := if_neg (fun z => m0 (and2.mp z).1)
    rw [e1, e2]
    exact out_r kcOAa (h.th 1)
theorem q_next (h : Rel n ns tk KF S U V T MF g tv) (x w : Int32) : Out hc1 (rNext x w S U V ns n T) (mNextC x w MF g ns tv).1 ((mNextC x w MF g ns tv).2 0) (Rel n ns tk KF S U V T (mNextC x w MF g ns tv).2 g tv) (Rel n ns tk KF S U V T (mNextC x w MF g ns tv).2 g tv) := by
  have hn := h.n6
  by_cases c0 : isIn x 0 (nI n - 1) = true
  · obtain ⟨i, hi, rfl⟩ := isIn_nat (by omega) c0
    have m0 : isIn (nI i) 0 (MF 2 - 1) = true := by rw [h.m2]; exact c0
    have ec : (nI i).toNatClampNeg = i := nI_clamp (by omega)
    by_cases c1 : isIn w 0 2 = true
    · have hT := h.wd.t hi
      have hG := h.gr.rel h.ns0
      have e1 : rNext (nI i) w S U V ns n T = .inl (if w = 0 then mPull (tv i).1 else if w = 1 then mDrag (tv i).1 (tv i).2.1 (tv i).2.2.1 (mN (tv i)) g ns else mWay (tv i).1 (tv i).2.1 (tv i).2.2.1 (mN (tv i)) g ns) := by
        unfold rNext
        rw [if_pos c0, if_pos c1, ec, hT.cn, way_eq hT.r hT.b hT.w hG, drag_eq hT.r hT.b hG, hT.r.f.pull]
      have e2 : mNextC (nI i) w MF g ns tv = (if w = 0 then mPull (tv i).1 else if w = 1 then mDrag (tv i).1 (tv i).2.1 (tv i).2.2.1 (mN (tv i)) g ns else mWay (tv i).1 (tv i).2.1 (tv i).2.2.1 (mN (tv i)) g ns, upd MF 0 0) := by
        unfold mNextC
        rw [if_pos (and2.mpr ⟨m0, c1⟩), ec]
      rw [e1, e2]
      exact out_l (h.th 0)
    · have e1 : rNext (nI i) w S U V ns n T = .inr xIOB := (if_pos c0).trans (if_neg c1)
      have e2 : mNextC (nI i) w MF g ns tv = (0, upd MF 0 1) := if_neg (fun z => c1 (and2.mp z).2)
      rw [e1, e2]
      exact out_r rfl (h.th 1)
  · have m0 : ¬ isIn x 0 (MF 2 - 1) = true := by rw [h.m2]; exact c0
    have e1 : rNext x w S U V ns n T = .inr xIOB := if_neg c0
    have e2 : mNextC x w MF g ns tv = (0, upd MF 0 1) := if_neg (fun z => m0 (and2.mp z).1)
    rw [e1, e2]
    exact out_r rfl (h.th 1)
theorem q_ranked (h : Rel n ns tk KF S U V T MF g tv) (x : Int32) : Out hc1 (rRanked x T n) (mRankedC x MF tv n).1 ((mRankedC x MF tv n).2 0) (Rel n ns tk KF S U V T (mRankedC x MF tv n).2 g tv) (Rel n ns tk KF S U V T (mRankedC x MF tv n).2 g tv) := by
  have hn := h.n6
  by_cases c0 : isIn x 0 (nI n - 1) = true
  · obtain ⟨i, hi, rfl⟩ := isIn_nat (by omega) c0
    have m0 : isIn (nI i) 0 (MF 2 - 1) = true := by rw [h.m2]; exact c0
    have e1 : rRanked (nI i) T n = .inl (cAtRank T n (nI i)) := if_pos ⟨nI_pos (by omega), (nI_ltI (by omega) (by omega)).mpr hi⟩
    have e2 : mRankedC (nI i) MF tv n = (nI (mAt tv n (nI i)), upd MF 0 0) := if_pos m0
    rw [e1, e2, at_eq hn h.wd hi]
    exact out_l (h.th 0)
  · have m0 : ¬ isIn x 0 (MF 2 - 1) = true := by rw [h.m2]; exact c0
    have e1 : rRanked x T n = .inr xIOB := if_neg (fun z => by
      obtain ⟨j, hj, rfl⟩ := nat_of (b := n) (by omega) z.1 z.2
      exact c0 (isIn_lt (by omega) hj))
    have e2 : mRankedC x MF tv n = (0, upd MF 0 1) := if_neg m0
    rw [e1, e2]
    exact out_r rfl (h.th 1)
/-- the teams behind k ticks, each alone -/
theorem see_eq (h : Rel n ns tk KF S U V T MF g tv) (htk : tk ≤ 500000) {k : Nat} (hk : k ≤ 1000) {i : Nat} (hi : i < n) : Tm (cLook S U V ns (KF 4) (nI tk) ((T (i + 2)).1 8) (T (i + 2)) k) ((mIt g ns n (upd MF 0 0, tv) k).2 i) ∧ (cLook S U V ns (KF 4) (nI tk) ((T (i + 2)).1 8) (T (i + 2)) k).1 0 = nI i := by
  have e3 : (upd MF 0 0) 3 = KF 4 := h.m3
  have e4 : (upd MF 0 0) 1 = nI tk := h.m1
  rw [mIt_team hi k]
  show Tm _ (itT g ns ((upd MF 0 0) 3) ((upd MF 0 0) 1) (tv i) k) ∧ _
  rw [e3, e4]
  obtain ⟨h1, h2⟩ := look_tm (tk := tk) (tick := nI tk) (h.wd.t hi).same (h.gr.rel h.ns0) h.len.2 rfl k (by omega)
  exact ⟨h1, h2.trans (h.wd i hi).2⟩
theorem rivals_eq (h : Rel n ns tk KF S U V T MF g tv) (htk : tk ≤ 500000) {k : Nat} (hk : k ≤ 1000) {i : Nat} (hi : i < n) {X : Nat → TV} (hX : ∀ t, t < n → X (t + 2) = T (t + 2)) :
    cRivals S U V ns (KF 4) (nI tk) X (cLook S U V ns (KF 4) (nI tk) ((T (i + 2)).1 8) (T (i + 2)) k).1 k n = mRank (mIt g ns n (upd MF 0 0, tv) k).2 n i := by
  have hn := h.n6
  unfold cRivals mRank
  refine cnt_cong (fun o ho => ?_)
  rw [hX o ho]
  obtain ⟨a1, a2⟩ := see_eq h htk hk ho
  obtain ⟨b1, b2⟩ := see_eq h htk hk hi
  exact ahead_eq (by omega) (by omega) a1.r.f b1.r.f a2 b2 (fun e => by rw [e])
theorem q_see (h : Rel n ns tk KF S U V T MF g tv) (htk : tk ≤ 500000) (x y w : Int32) : Out hcOA (rSee x y w S U V ns (KF 4) (nI tk) T n) (mSeeC x y w MF g ns n tv).1 ((mSeeC x y w MF g ns n tv).2 0) (Rel n ns tk KF S U V (cSee x y w S U V ns (KF 4) (nI tk) T n) (mSeeC x y w MF g ns n tv).2 g tv) (Rel n ns tk KF S U V T (mSeeC x y w MF g ns n tv).2 g tv) := by
  have hn := h.n6
  have hX0 : ∀ t, t < n → cSee0 x y S U V ns (KF 4) (nI tk) T (t + 2) = T (t + 2) := fun t ht => by unfold cSee0; rw [setT_ne _ (by omega)]
  have hX : ∀ t, t < n → cSee x y w S U V ns (KF 4) (nI tk) T n (t + 2) = T (t + 2) := fun t ht => by
    unfold cSee; split
    · rw [setT_ne _ (by omega)]; exact hX0 t ht
    · exact hX0 t ht
  have hR : ∀ v, Rel n ns tk KF S U V (cSee x y w S U V ns (KF 4) (nI tk) T n) (upd MF 0 v) g tv := fun v =>
    ⟨h.n6, h.2.1, h.k3, h.m2, h.m1, h.m3, h.len, h.m5, (show MF 4 = _ from h.m4.trans (cBroke_cong (fun t ht => by rw [hX t ht])).symm), h.gr, fun t ht => by rw [hX t ht]; exact h.wd t ht⟩
  by_cases c0 : isIn x 0 (nI n - 1) = true
  · obtain ⟨i, hi, rfl⟩ := isIn_nat (by omega) c0
    have m0 : isIn (nI i) 0 (MF 2 - 1) = true := by rw [h.m2]; exact c0
    have ec : (nI i).toNatClampNeg = i := nI_clamp (by omega)
    by_cases c1 : isIn w 0 2 = true
    · by_cases c2 : isIn y 1 400 = true
      · obtain ⟨k, hk1, hk2, rfl⟩ := isIn_rng (a := 1) (b := 400) (by decide) (by decide) c2
        have ek : (nI k).toNatClampNeg = k := nI_clamp (by omega)
        obtain ⟨a1, a2⟩ := see_eq h htk (show k ≤ 1000 by omega) hi
        have e0 : cSee0 (nI i) (nI k) S U V ns (KF 4) (nI tk) T 0 = cLook S U V ns (KF 4) (nI tk) ((T (i + 2)).1 8) (T (i + 2)) k := by unfold cSee0; rw [setT_i, ec, ek]
        have e1 : rSee (nI i) (nI k) w S U V ns (KF 4) (nI tk) T n = .inl (mSee (mIt g ns n (upd MF 0 0, tv) k) n i w) := by
          unfold rSee mSee
          rw [if_pos c0, if_pos c1, if_pos c2, e0, ek, rivals_eq h htk (show k ≤ 1000 by omega) hi hX0, a1.r.f.fro, a1.r.f.bre]
        have e2 : mSeeC (nI i) (nI k) w MF g ns n tv = (mSee (mIt g ns n (upd MF 0 0, tv) k) n i w, upd MF 0 0) := ((if_pos (and2.mpr ⟨m0, c1⟩)).trans (if_pos c2)).trans (by rw [ec, ek])
        rw [e1, e2]
        exact out_l (hR 0)
      · have e1 : rSee (nI i) y w S U V ns (KF 4) (nI tk) T n = .inr xIAE := (if_pos c0).trans ((if_pos c1).trans (if_neg c2))
        have e2 : mSeeC (nI i) y w MF g ns n tv = (0, upd MF 0 2) := (if_pos (and2.mpr ⟨m0, c1⟩)).trans (if_neg c2)
        rw [e1, e2]
        exact out_r kcOAb (h.th 2)
    · have e1 : rSee (nI i) y w S U V ns (KF 4) (nI tk) T n = .inr xIOB := (if_pos c0).trans (if_neg c1)
      have e2 : mSeeC (nI i) y w MF g ns n tv = (0, upd MF 0 1) := if_neg (fun z => c1 (and2.mp z).2)
      rw [e1, e2]
      exact out_r kcOAa (h.th 1)
  · have m0 : ¬ isIn x 0 (MF 2 - 1) = true := by rw [h.m2]; exact c0
    have e1 : rSee x y w S U V ns (KF 4) (nI tk) T n = .inr xIOB := if_neg c0
    have e2 : mSeeC x y w MF g ns n tv = (0, upd MF 0 1) := if_neg (fun z => m0 (and2.mp z).1)
    rw [e1, e2]
    exact out_r kcOAa (h.th 1)
theorem try_eq (h : Rel n ns tk KF S U V T MF g tv) (htk : tk ≤ 500000) {k : Nat} (hk : k ≤ 1000) {i : Nat} (hi : i < n) (e : Int32) : (cLook S U V ns (KF 4) (nI tk) e (T (i + 2)) k).1 10 = mTry MF g ns n tv i k e := by
  have e3 : (upd MF 0 0) 3 = KF 4 := h.m3
  have e4 : (upd MF 0 0) 1 = nI tk := h.m1
  unfold mTry
  rw [mIt_team hi k]
  show _ = (itT g ns ((upd MF 0 0) 3) ((upd MF 0 0) 1) (setT tv i (upd (tv i).1 7 e, (tv i).2) i) k).1 9
  rw [e3, e4, setT_i]
  exact (look_tm (tk := tk) (tick := nI tk) ((h.wd.t hi).eff e) (h.gr.rel h.ns0) h.len.2 rfl k (by omega)).1.r.f.fro
theorem best_eq {F : Nat → Int32} {len tick : Int32} {b k : Nat} (h : ∀ e, (cLook S U V ns len tick (nI e) (T b) k).1 10 = F e) : ∀ e, cAdv S U V ns len tick T b k e = mBest F e
  | 0 => rfl
  | e + 1 => by
    show (if (cAdv S U V ns len tick T b k e).2 < (cLook S U V ns len tick (nI e) (T b) k).1 10 then (nI e, (cLook S U V ns len tick (nI e) (T b) k).1 10) else cAdv S U V ns len tick T b k e) = (if (mBest F e).2 < F e then (nI e, F e) else mBest F e)
    rw [best_eq h e, h e]
theorem q_adv (h : Rel n ns tk KF S U V T MF g tv) (htk : tk ≤ 500000) (x y : Int32) : Out hcOA (rAdv x y S U V ns (KF 4) (nI tk) T n) (mAdviseC x y MF g ns n tv).1 ((mAdviseC x y MF g ns n tv).2 0) (Rel n ns tk KF S U V (setT T 0 (cAdvT S U V ns (KF 4) (nI tk) T (x.toNatClampNeg + 2) y.toNatClampNeg 11)) (mAdviseC x y MF g ns n tv).2 g tv) (Rel n ns tk KF S U V T (mAdviseC x y MF g ns n tv).2 g tv) := by
  have hn := h.n6
  generalize hN : cAdvT S U V ns (KF 4) (nI tk) T (x.toNatClampNeg + 2) y.toNatClampNeg 11 = N
  have hX : ∀ t, t < n → setT T 0 N (t + 2) = T (t + 2) := fun t ht => setT_ne _ (by omega) _
  have hR : ∀ v, Rel n ns tk KF S U V (setT T 0 N) (upd MF 0 v) g tv := fun v =>
    ⟨h.n6, h.2.1, h.k3, h.m2, h.m1, h.m3, h.len, h.m5, (show MF 4 = _ from h.m4.trans (cBroke_cong (fun t ht => by rw [hX t ht])).symm), h.gr, fun t ht => by rw [hX t ht]; exact h.wd t ht⟩
  clear hN
  by_cases c0 : isIn x 0 (nI n - 1) = true
  · obtain ⟨i, hi, rfl⟩ := isIn_nat (by omega) c0
    have m0 : isIn (nI i) 0 (MF 2 - 1) = true := by rw [h.m2]; exact c0
    have ec : (nI i).toNatClampNeg = i := nI_clamp (by omega)
    by_cases c2 : isIn y 1 200 = true
    · obtain ⟨k, hk1, hk2, rfl⟩ := isIn_rng (a := 1) (b := 200) (by decide) (by decide) c2
      have ek : (nI k).toNatClampNeg = k := nI_clamp (by omega)
      have e1 : rAdv (nI i) (nI k) S U V ns (KF 4) (nI tk) T n = .inl (mBest (fun e => mTry MF g ns n tv i k (nI e)) 11).1 := by
        unfold rAdv
        rw [if_pos c0, if_pos c2, ec, ek, best_eq (F := fun e => mTry MF g ns n tv i k (nI e)) (fun e => try_eq h htk (show k ≤ 1000 by omega) hi (nI e))]
      have e2 : mAdviseC (nI i) (nI k) MF g ns n tv = ((mBest (fun e => mTry MF g ns n tv i k (nI e)) 11).1, upd MF 0 0) := ((if_pos m0).trans (if_pos c2)).trans (by rw [ec, ek])
      rw [e1, e2]
      exact out_l (hR 0)
    · have e1 : rAdv (nI i) y S U V ns (KF 4) (nI tk) T n = .inr xIAE := (if_pos c0).trans (if_neg c2)
      have e2 : mAdviseC (nI i) y MF g ns n tv = (0, upd MF 0 2) := (if_pos m0).trans (if_neg c2)
      rw [e1, e2]
      exact out_r kcOAb (h.th 2)
  · have m0 : ¬ isIn x 0 (MF 2 - 1) = true := by rw [h.m2]; exact c0
    have e1 : rAdv x y S U V ns (KF 4) (nI tk) T n = .inr xIOB := if_neg c0
    have e2 : mAdviseC x y MF g ns n tv = (0, upd MF 0 1) := if_neg m0
    rw [e1, e2]
    exact out_r kcOAa (h.th 1)
theorem q_digest (h : Rel n ns tk KF S U V T MF g tv) : cDigest KF T n (nI tk) = mDigest MF tv n := digest_eq h.n6 h.wd h.m1 h.m2 h.m3 (h.m5.trans h.k3.symm) h.m4
theorem q_mean (h : Rel n ns tk KF S U V T MF g tv) : cFronts T n = mSum tv n := fronts_eq h.wd n (Nat.le_refl n)
end REL
/-- at the beginning -/
theorem Rel.init {T : Nat → TV} {tv : Nat → TV} : Rel 0 1 0 cTrackF (fun _ => 0) (fun _ => 0) (upd (fun _ => 0) 0 2) T mInitF (upd (fun _ => 0) 2 2) tv :=
  ⟨by decide, ⟨by decide, by decide⟩, rfl, rfl, rfl, rfl, ⟨by show 100 ≤ (500 : Int32).toInt; decide, by show (500 : Int32).toInt ≤ 2000; decide⟩, rfl, rfl, Grd.init, fun t ht => absurd ht (Nat.not_lt_zero t)⟩
