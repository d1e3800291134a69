/-! The simulation: a tick of a team -/
theorem Bd.ints {M K Q L : Nat → Int32} {n : Nat} (h : Bd M Q L n) (h0 : K 0 = M 0) (h8 : K 8 = M 8) (h9 : K 9 = M 9) : Bd K Q L n :=
  ⟨by rw [h0]; exact h.len, by rw [h8]; exact h.gap, by rw [h9]; exact h.fro, h.pla⟩
theorem mSnap_of {M : Nat → Int32} {j : Nat} (h1 : ¬ j = 11) (h2 : ¬ j = 12) : mSnap M j = M j := by
  unfold mSnap; split
  · unfold mSnapF; rw [upd_ne h2, upd_ne h1]
  · rfl
theorem tick_rel {T M : TV} {n nh ns ms : Nat} {S U V g : Nat → Int32} {len tk : Int32} (hn : n ≤ 8) (hnh : nh ≤ 3) (h : RelT T M n) (hb : Bd M.1 M.2.1 M.2.2.1 n) (hh : HoldD M.2.2.1 n) (hw : 0 < M.1 1) (hG : RelG S U V ns g ms) (hf : M.1 13 = -1 → (M.1 9).toInt < 2000) :
    RelT (cTick n nh S U V ns len tk T) (mTick n nh g ms len tk M) n ∧ Bd (mTick n nh g ms len tk M).1 (mTick n nh g ms len tk M).2.1 (mTick n nh g ms len tk M).2.2.1 n ∧ HoldD (mTick n nh g ms len tk M).2.2.1 n := by
  by_cases c : M.1 13 = -1
  · have hE : ¬ cE T.1 = true := fun z => of_decide_eq_true z (h.f.fin.trans c)
    have hs := snap_rel h
    have hbS : Bd (mSnap M.1) M.2.1 M.2.2.1 n := hb.ints (mSnap_of (by decide) (by decide)) (mSnap_of (by decide) (by decide)) (mSnap_of (by decide) (by decide))
    have hk : cSnap T.1 13 = mSnap M.1 12 := hs.f.kno
    by_cases d : 0 < mSnap M.1 12
    · have e1 : mTick n nh g ms len tk M = mBreathe 0 (upd (upd (mSnap M.1) 12 (mSnap M.1 12 - 1)) 14 0, M.2) := (if_neg (fun z => z c)).trans (if_pos d)
      have e2 : cTick n nh S U V ns len tk T = (cKnot (cSnap T.1), T.2) := (if_neg hE).trans (if_pos (by rw [hk]; exact d))
      rw [e1, e2]
      exact ⟨knot_rel (T := (cSnap T.1, T.2)) (M := (mSnap M.1, M.2)) hs, hbS.ints rfl rfl rfl, hh⟩
    · have e1 : mTick n nh g ms len tk M = mGo n nh g ms len tk (mSnap M.1, M.2) := (if_neg (fun z => z c)).trans (if_neg d)
      have e2 : cTick n nh S U V ns len tk T = cTickA n nh len tk (cT3 n S U V ns (cPull T.1) (cSnap T.1) T.2.1) T.2.1 T.2.2.1 T.2.2.2 := (if_neg hE).trans (if_neg (by rw [hk]; exact d))
      rw [e1, e2]
      have hr := roll_rel (T := (cSnap T.1, T.2)) (M := (mSnap M.1, M.2)) hs hbS (by show 0 < mSnap M.1 1; rw [mSnap_of (by decide) (by decide)]; exact hw) hG (cPull T.1) (cSnap_pull T.1).symm
      have hrb := roll_bd (M := (mSnap M.1, M.2)) (ms := ms) (g := g) hbS (by show (mSnap M.1 9).toInt < 2000; rw [mSnap_of (by decide) (by decide)]; exact hf c)
      have hsend := send_rel hn hr hrb hh nh hnh
      unfold cTickA mGo
      show RelT (cT6 len tk (cT5 (cT4 (cT3 n S U V ns (cPull T.1) (cSnap T.1) T.2.1) 8) (cT4 (cT3 n S U V ns (cPull T.1) (cSnap T.1) T.2.1))), cSend (cT4 (cT3 n S U V ns (cPull T.1) (cSnap T.1) T.2.1)) n (cMoveP (cT3 n S U V ns (cPull T.1) (cSnap T.1) T.2.1) T.2.1 n, T.2.2.1, T.2.2.2) nh) _ n ∧ _
      revert hsend
      show RelT (cT4 (cT3 n S U V ns (cPull T.1) (cSnap T.1) T.2.1), cSend (cT4 (cT3 n S U V ns (cPull T.1) (cSnap T.1) T.2.1)) n (cMoveP (cT3 n S U V ns (cPull T.1) (cSnap T.1) T.2.1) T.2.1 n, T.2.2.1, T.2.2.2) nh) (mSend n (mRoll n g ms (mSnap M.1, M.2)) nh) n ∧ _ ∧ _ → _
      generalize mSend n (mRoll n g ms (mSnap M.1, M.2)) nh = K
      generalize cSend (cT4 (cT3 n S U V ns (cPull T.1) (cSnap T.1) T.2.1)) n (cMoveP (cT3 n S U V ns (cPull T.1) (cSnap T.1) T.2.1) T.2.1 n, T.2.2.1, T.2.2.2) nh = X
      generalize cT4 (cT3 n S U V ns (cPull T.1) (cSnap T.1) T.2.1) = Y
      rintro ⟨s1, s2, s3⟩
      have hbr := s1.f.breathe (Y 8)
      have e8 : Y 8 = K.1 7 := s1.f.eff
      have hbr2 : RelF (cT5 (Y 8) Y) (upd K.1 10 (mBr (K.1 10) (K.1 7))) := by rw [← e8]; exact hbr
      have e10 : cT5 (Y 8) Y 10 = K.1 9 := hbr2.fro
      unfold mEnd mBreathe cT6
      rw [e10]
      show RelT (if K.1 9 < len then cT5 (Y 8) Y else upd (cT5 (Y 8) Y) 16 tk, X) (if K.1 9 < len then (upd K.1 10 (mBr (K.1 10) (K.1 7)), K.2) else (upd (upd K.1 10 (mBr (K.1 10) (K.1 7))) 13 tk, K.2)) n ∧ _
      by_cases q : K.1 9 < len
      · have q2 : (upd K.1 10 (mBr (K.1 10) (K.1 7)), K.2).1 9 < len := q
        simp only [if_pos q, if_pos q2]
        exact ⟨s1.ints hbr2, s2.ints rfl rfl rfl, s3⟩
      · have q2 : ¬ (upd K.1 10 (mBr (K.1 10) (K.1 7)), K.2).1 9 < len := q
        simp only [if_neg q, if_neg q2]
        refine ⟨s1.ints ⟨hbr2.len, hbr2.wt, hbr2.rol, hbr2.pul, hbr2.str, hbr2.run, hbr2.who, hbr2.eff, hbr2.gap, hbr2.fro, hbr2.bre, hbr2.rop, hbr2.kno, hbr2.way, rfl⟩, s2.ints rfl rfl rfl, s3⟩
  · have hE : cE T.1 = true := decide_eq_true (fun z => c (h.f.fin.symm.trans z))
    have e1 : mTick n nh g ms len tk M = M := if_pos c
    have e2 : cTick n nh S U V ns len tk T = T := if_pos hE
    rw [e1, e2]
    exact ⟨h, hb, hh⟩
