/-! The simulation: rolling on -/
def RelG (S U V : Nat → Int32) (ns : Nat) (g : Nat → Int32) (ms : Nat) : Prop := ∀ x, cGr S U ns x = mGS g ms x ∧ cGr S V ns x = mGF g ms x
theorem drag_eq {T M : TV} {n ns ms : Nat} {S U V g : Nat → Int32} (h : RelT T M n) (hb : Bd M.1 M.2.1 M.2.2.1 n) (hG : RelG S U V ns g ms) : cDrag T.1 T.2.1 n (cGr S U ns (T.1 10)) (cGr S V ns (T.1 10)) = mDrag M.1 M.2.1 M.2.2.1 n g ms := by
  unfold cDrag mDrag mDragX
  rw [lie_eq h hb, h.f.fro, (hG _).1, (hG _).2, h.f.wt, cDr_eq]
theorem way_eq {T M : TV} {n ns ms : Nat} {S U V g : Nat → Int32} (h : RelT T M n) (hb : Bd M.1 M.2.1 M.2.2.1 n) (hw : 0 < M.1 1) (hG : RelG S U V ns g ms) : cWay T.1 (cPull T.1) (cDrag T.1 T.2.1 n (cGr S U ns (T.1 10)) (cGr S V ns (T.1 10))) = mWay M.1 M.2.1 M.2.2.1 n g ms := by
  unfold cWay mWay
  rw [drag_eq h hb hG, h.f.wt, if_pos hw, h.f.pull]
  exact imin_imax (by decide) _
theorem side_upd (F : Nat → Int32) (v x : Int32) : cSide (upd F 15 v) x = cSide F x := rfl
/-- the sledge rolls on -/
theorem roll_rel {T M : TV} {n ns ms : Nat} {S U V g : Nat → Int32} (h : RelT T M n) (hb : Bd M.1 M.2.1 M.2.2.1 n) (hw : 0 < M.1 1) (hG : RelG S U V ns g ms) (pl : Int32) (hpl : pl = cPull T.1) :
    RelT (cT4 (cT3 n S U V ns pl T.1 T.2.1), cMoveP (cT3 n S U V ns pl T.1 T.2.1) T.2.1 n, T.2.2.1, T.2.2.2) (mRoll n g ms M) n := by
  subst hpl
  have e := way_eq h hb hw hG
  have e2 : cT3 n S U V ns (cPull T.1) T.1 T.2.1 = upd T.1 15 (mWay M.1 M.2.1 M.2.2.1 n g ms) := by unfold cT3; rw [e]
  rw [e2]
  obtain ⟨w, hwy⟩ : ∃ w, w = mWay M.1 M.2.1 M.2.2.1 n g ms := ⟨_, rfl⟩
  unfold mRoll
  rw [← hwy]
  refine ⟨?_, fun k hk => ?_, h.l, h.g⟩
  · have e3 : upd T.1 15 w 10 + upd T.1 15 w 15 = M.1 9 + w := by
      show T.1 10 + w = _
      rw [h.f.fro]
    show RelF (upd (upd T.1 15 w) 10 (upd T.1 15 w 10 + upd T.1 15 w 15)) (upd (upd M.1 9 (M.1 9 + w)) 14 w)
    rw [e3]
    exact ⟨h.f.len, h.f.wt, h.f.rol, h.f.pul, h.f.str, h.f.run, h.f.who, h.f.eff, h.f.gap, rfl, h.f.bre, h.f.rop, h.f.kno, rfl, h.f.fin⟩
  · show cMoveP (upd T.1 15 w) T.2.1 n k = if mCar M.2.2.1 (nI k) = true then -9999 else mRollP M.1 M.2.1 M.2.2.1 w n k
    have hs := side_eq h.f (h.p k hk) hb hk
    unfold cMoveP mRollP
    rw [side_upd, hs, h.p k hk]
    show (if k < n ∧ mSide M.1 M.2.1 M.2.2.1 k = 0 then (if mCar M.2.2.1 (nI k) = true then (-9999 : Int32) else M.2.1 k) + w / 2 else (if mCar M.2.2.1 (nI k) = true then -9999 else M.2.1 k)) = _
    by_cases hc : mCar M.2.2.1 (nI k) = true
    · have h3 : mSide M.1 M.2.1 M.2.2.1 k = 3 := by unfold mSide; rw [if_pos hc]
      rw [h3, if_neg (fun z => absurd z.2 (by decide)), if_pos hc, if_pos hc]
    · rw [if_neg hc, if_neg hc]
theorem snap_rel {T M : TV} {n : Nat} (h : RelT T M n) : RelT (cSnap T.1, T.2) (mSnap M.1, M.2) n := ⟨h.f.snap, h.p, h.l, h.g⟩
theorem cSnap_pull (F : Nat → Int32) : cPull (cSnap F) = cPull F := by
  unfold cPull
  rw [cSnap_of (by decide) (by decide) (by decide), cSnap_of (by decide) (by decide) (by decide), cSnap_of (by decide) (by decide) (by decide), cSnap_of (by decide) (by decide) (by decide)]
