/-! WHAT THE REFERENCE DOES, as functions: a row of its table as four functions: F its first 15 ints, P the places, L what the runners hold, G what is left to them -/
def row (T : TV) (b : Nat) : Int32 := if b < 15 then T.1 b else if b < 23 then T.2.1 (b - 15) else if b < 26 then T.2.2.1 (b - 23) else T.2.2.2 (b - 26)
def tab (tv : Nat → TV) : Nat → Int32 := fun k => row (tv (k / 29)) (k % 29)
def setT (tv : Nat → TV) (i : Nat) (T : TV) : Nat → TV := fun a => if a = i then T else tv a
theorem setT_i (tv : Nat → TV) (i : Nat) (T : TV) : setT tv i T i = T := by simp [setT]
theorem setT_ne (tv : Nat → TV) {i j : Nat} (h : j ≠ i) (T : TV) : setT tv i T j = tv j := by simp [setT, h]
theorem setT_self (tv : Nat → TV) (i : Nat) : setT tv i (tv i) = tv := by funext a; unfold setT; split <;> simp_all
theorem setT_setT (tv : Nat → TV) (i : Nat) (T T' : TV) : setT (setT tv i T) i T' = setT tv i T' := by funext a; unfold setT; split <;> rfl
theorem row_P (T : TV) {k : Nat} (h : k < 8) : row T (15 + k) = T.2.1 k := by
  unfold row; rw [if_neg (by omega), if_pos (by omega), show 15 + k - 15 = k by omega]
theorem row_L (T : TV) {k : Nat} (h : k < 3) : row T (23 + k) = T.2.2.1 k := by
  unfold row; rw [if_neg (by omega), if_neg (by omega), if_pos (by omega), show 23 + k - 23 = k by omega]
theorem row_G (T : TV) (k : Nat) : row T (26 + k) = T.2.2.2 k := by
  unfold row; rw [if_neg (by omega), if_neg (by omega), if_neg (by omega), show 26 + k - 26 = k by omega]
theorem tab_at (tv : Nat → TV) (i : Nat) {j : Nat} (h : j < 29) : tab tv (29 * i + j) = row (tv i) j := by
  unfold tab
  rw [show (29 * i + j) / 29 = i by omega, show (29 * i + j) % 29 = j by omega]
theorem tab_set {tv : Nat → TV} {i j : Nat} {x : Int32} {T : TV} (hj : j < 29) (h : ∀ b, b < 29 → row T b = if b = j then x else row (tv i) b) : upd (tab tv) (29 * i + j) x = tab (setT tv i T) := by
  funext k
  simp only [upd, tab, setT]
  by_cases hk : k = 29 * i + j
  · subst hk
    rw [if_pos rfl, show (29 * i + j) / 29 = i by omega, if_pos rfl, show (29 * i + j) % 29 = j by omega, h j hj, if_pos rfl]
  · rw [if_neg hk]
    by_cases hi : k / 29 = i
    · rw [if_pos hi, h _ (Nat.mod_lt _ (by decide)), if_neg (by omega), hi]
    · rw [if_neg hi]
theorem rs_F {F P L G : Nat → Int32} {j : Nat} {x : Int32} (hj : j < 15) (b : Nat) : row (upd F j x, P, L, G) b = if b = j then x else row (F, P, L, G) b := by
  by_cases h : b = j
  · subst h; simp [row, hj, upd]
  · rw [if_neg h]; simp only [row, upd, if_neg h]
theorem rs_P {F P L G : Nat → Int32} {k : Nat} {x : Int32} (hk : k < 8) (b : Nat) : row (F, upd P k x, L, G) b = if b = 15 + k then x else row (F, P, L, G) b := by
  by_cases h : b = 15 + k
  · subst h; rw [if_pos rfl, row_P _ hk]; simp [upd]
  · rw [if_neg h]; simp only [row, upd]
    by_cases h1 : b < 15
    · rw [if_pos h1, if_pos h1]
    · rw [if_neg h1, if_neg h1, if_neg (show ¬ b - 15 = k by omega)]
theorem rs_L {F P L G : Nat → Int32} {k : Nat} {x : Int32} (hk : k < 3) (b : Nat) : row (F, P, upd L k x, G) b = if b = 23 + k then x else row (F, P, L, G) b := by
  by_cases h : b = 23 + k
  · subst h; rw [if_pos rfl, row_L _ hk]; simp [upd]
  · rw [if_neg h]; simp only [row, upd]
    by_cases h1 : b < 23
    · simp only [if_pos h1]
    · simp only [if_neg h1]; rw [if_neg (show ¬ b - 23 = k by omega)]
theorem rs_G {F P L G : Nat → Int32} {k : Nat} {x : Int32} (hk : k < 3) (b : Nat) : row (F, P, L, upd G k x) b = if b = 26 + k then x else row (F, P, L, G) b := by
  by_cases h : b = 26 + k
  · subst h; rw [if_pos rfl, row_G]; simp [upd]
  · rw [if_neg h]; simp only [row, upd]
    by_cases h1 : b < 26
    · simp only [if_pos h1]
    · simp only [if_neg h1]; rw [if_neg (show ¬ b - 26 = k by omega)]
def mCar (L : Nat → Int32) (k : Int32) : Bool := decide (L 0 = k ∨ L 1 = k ∨ L 2 = k)
theorem mCar_no {L : Nat → Int32} {k : Int32} (h : ∀ r, r < 3 → ¬ L r = k) : mCar L k = false := by
  unfold mCar
  exact decide_eq_false (fun q => by rcases q with q | q | q; exact h 0 (by decide) q; exact h 1 (by decide) q; exact h 2 (by decide) q)
theorem mCar_yes {L : Nat → Int32} {k : Int32} {r : Nat} (h : r < 3) (e : L r = k) : mCar L k = true := by
  unfold mCar
  refine decide_eq_true ?_
  rcases (show r = 0 ∨ r = 1 ∨ r = 2 by omega) with q | q | q <;> subst q
  · exact Or.inl e
  · exact Or.inr (Or.inl e)
  · exact Or.inr (Or.inr e)
def mSide (F P L : Nat → Int32) (k : Nat) : Int32 := if mCar L (nI k) = true then 3 else if F 9 < P k then 2 else if P k < F 9 - F 0 then 1 else 0
def mMany (F P L : Nat → Int32) (n : Nat) (w : Int32) : Nat := cnt (fun k => decide (mSide F P L k = w)) n
def mPull (F : Nat → Int32) : Int32 := F 3 * F 4 * F 7 * (500 + F 10) / 5000
def mStr (g : Nat → Int32) (x : Int32) : Nat → Nat
  | 0 => 0
  | k + 1 => if x < g (3 * (k + 1)) then mStr g x k else k + 1
theorem mStr_le (g : Nat → Int32) (x : Int32) : ∀ k, mStr g x k ≤ k
  | 0 => Nat.le_refl 0
  | k + 1 => by have := mStr_le g x k; unfold mStr; split <;> omega
def mDr (w gs gf u : Int32) : Int32 := imax (w / 10) (imax 0 (w * (20 + 10 * gs + 4 * gf) / 10) - imin 4 u * (w * (6 - gf / 2) / 10))
def mDragX (w gs gf u : Int32) : Int32 := if u < 2 then 2 * mDr w gs gf u else mDr w gs gf u
def mGS (g : Nat → Int32) (ns : Nat) (x : Int32) : Int32 := g (3 * mStr g x (ns - 1) + 1)
def mGF (g : Nat → Int32) (ns : Nat) (x : Int32) : Int32 := g (3 * mStr g x (ns - 1) + 2)
def mDrag (F P L : Nat → Int32) (n : Nat) (g : Nat → Int32) (ns : Nat) : Int32 := mDragX (F 1) (mGS g ns (F 9)) (mGF g ns (F 9)) (nI (mMany F P L n 0))
def mWay (F P L : Nat → Int32) (n : Nat) (g : Nat → Int32) (ns : Nat) : Int32 := imax 0 (imin 12 ((mPull F - mDrag F P L n g ns) * 4 / F 1))
def mRollP (F P L : Nat → Int32) (w : Int32) (i : Nat) : Nat → Int32 := fun k => if k < i ∧ mSide F P L k = 0 then P k + w / 2 else P k
theorem mRollP_0 (F P L : Nat → Int32) (w : Int32) : mRollP F P L w 0 = P := by funext k; simp [mRollP]
theorem mRollP_i (F P L : Nat → Int32) (w : Int32) (i : Nat) : mRollP F P L w i i = P i := by simp [mRollP]
theorem mRollP_side (F P L : Nat → Int32) (w : Int32) (i : Nat) : mSide F (mRollP F P L w i) L i = mSide F P L i := by unfold mSide; rw [mRollP_i]
theorem mRollP_up {F P L : Nat → Int32} {w : Int32} {i : Nat} (c : mSide F P L i = 0) : upd (mRollP F P L w i) i (P i + w / 2) = mRollP F P L w (i + 1) := by
  funext k
  simp only [upd, mRollP]
  by_cases h : k = i
  · subst h; rw [if_pos rfl, if_pos ⟨by omega, c⟩]
  · rw [if_neg h]
    by_cases h2 : k < i ∧ mSide F P L k = 0
    · rw [if_pos h2, if_pos ⟨by omega, h2.2⟩]
    · rw [if_neg h2, if_neg (fun q => h2 ⟨by omega, q.2⟩)]
theorem mRollP_no {F P L : Nat → Int32} {w : Int32} {i : Nat} (c : ¬ mSide F P L i = 0) : mRollP F P L w i = mRollP F P L w (i + 1) := by
  funext k
  simp only [mRollP]
  by_cases h2 : k < i ∧ mSide F P L k = 0
  · rw [if_pos h2, if_pos ⟨by omega, h2.2⟩]
  · rw [if_neg h2, if_neg (fun q => h2 ⟨by
      rcases Nat.lt_or_ge k i with z | z
      · exact z
      · have : k = i := by omega
        subst this
        exact absurd q.2 c, q.2⟩)]
def mRoll (n : Nat) (g : Nat → Int32) (ns : Nat) (T : TV) : TV :=
  (upd (upd T.1 9 (T.1 9 + mWay T.1 T.2.1 T.2.2.1 n g ns)) 14 (mWay T.1 T.2.1 T.2.2.1 n g ns), mRollP T.1 T.2.1 T.2.2.1 (mWay T.1 T.2.1 T.2.2.1 n g ns) n, T.2.2.1, T.2.2.2)
def mFd (F P L : Nat → Int32) : Nat → Int32 → Int32
  | 0, f => f
  | k + 1, f => mFd F P L k (if mSide F P L k = 1 ∧ (f = -1 ∨ ¬ P f.toNatClampNeg < P k) then nI k else f)
theorem mFd_in (F P L : Nat → Int32) : ∀ (k : Nat) (f : Int32), k ≤ 8 → (f = -1 ∨ ∃ j : Nat, j < 8 ∧ f = nI j) → (mFd F P L k f = -1 ∨ ∃ j : Nat, j < 8 ∧ mFd F P L k f = nI j)
  | 0, f, _, h => h
  | k + 1, f, hk, h => by
    unfold mFd
    refine mFd_in F P L k _ (by omega) ?_
    split
    · exact Or.inr ⟨k, by omega, rfl⟩
    · exact h
/-- what the runners hold: nothing, or a roller -/
def mHold (L : Nat → Int32) : Prop := ∀ r, r < 3 → (L r = -1 ∨ ∃ j : Nat, j < 8 ∧ L r = nI j)
def mRun (n r : Nat) (T : TV) : TV :=
  if T.2.2.1 r = -1 then
    if mFd T.1 T.2.1 T.2.2.1 n (-1) = -1 then T else (T.1, T.2.1, upd T.2.2.1 r (mFd T.1 T.2.1 T.2.2.1 n (-1)), upd T.2.2.2 r ((T.1 9 + T.1 8 - T.2.1 (mFd T.1 T.2.1 T.2.2.1 n (-1)).toNatClampNeg) / 12 + 2))
  else if 0 < T.2.2.2 r - 1 then (T.1, T.2.1, T.2.2.1, upd T.2.2.2 r (T.2.2.2 r - 1))
  else (T.1, upd T.2.1 (T.2.2.1 r).toNatClampNeg (T.1 9 + T.1 8), upd T.2.2.1 r (-1), upd T.2.2.2 r (T.2.2.2 r - 1))
theorem mRun_F (n r : Nat) (T : TV) : (mRun n r T).1 = T.1 := by unfold mRun; split <;> split <;> rfl
theorem hold_upd {L : Nat → Int32} {r : Nat} {v : Int32} (h : mHold L) (hv : v = -1 ∨ ∃ j : Nat, j < 8 ∧ v = nI j) : mHold (upd L r v) := by
  intro q hq
  by_cases e : q = r
  · subst e; rw [pk_us]; exact hv
  · rw [pk_un e]; exact h q hq
theorem mRun_hold {n r : Nat} {T : TV} (hn : n ≤ 8) (h : mHold T.2.2.1) : mHold (mRun n r T).2.2.1 := by
  unfold mRun
  split
  · split
    · exact h
    · exact hold_upd h (mFd_in T.1 T.2.1 T.2.2.1 n (-1) hn (Or.inl rfl))
  · split
    · exact h
    · exact hold_upd h (Or.inl rfl)
def mSend (n : Nat) (T : TV) : Nat → TV
  | 0 => T
  | r + 1 => mRun n r (mSend n T r)
theorem mSend_F (n : Nat) (T : TV) : ∀ r, (mSend n T r).1 = T.1
  | 0 => rfl
  | r + 1 => by show (mRun n r (mSend n T r)).1 = _; rw [mRun_F, mSend_F n T r]
theorem mSend_hold {n : Nat} {T : TV} (hn : n ≤ 8) (h : mHold T.2.2.1) : ∀ r, mHold (mSend n T r).2.2.1
  | 0 => h
  | r + 1 => mRun_hold hn (mSend_hold hn h r)
def mBr (b x : Int32) : Int32 := imax 0 (imin 1000 (b - x * x / 2 + 18))
def mBreathe (x : Int32) (T : TV) : TV := (upd T.1 10 (mBr (T.1 10) x), T.2)
def mSnaps (F : Nat → Int32) : Bool := decide (F 12 = 0 ∧ F 11 < mPull F)
def mSnapF (F : Nat → Int32) : Nat → Int32 := upd (upd F 11 (imax 10 (F 11 - F 11 / 10))) 12 15
def mSnap (F : Nat → Int32) : Nat → Int32 := if mSnaps F = true then mSnapF F else F
def mEnd (len tk : Int32) (T : TV) : TV := if T.1 9 < len then T else (upd T.1 13 tk, T.2)
def mGo (n nh : Nat) (g : Nat → Int32) (ns : Nat) (len tk : Int32) (T : TV) : TV :=
  mEnd len tk (mBreathe ((mSend n (mRoll n g ns T) nh).1 7) (mSend n (mRoll n g ns T) nh))
def mTick (n nh : Nat) (g : Nat → Int32) (ns : Nat) (len tk : Int32) (T : TV) : TV :=
  if ¬ T.1 13 = -1 then T
  else if 0 < mSnap T.1 12 then mBreathe 0 (upd (upd (mSnap T.1) 12 (mSnap T.1 12 - 1)) 14 0, T.2)
  else mGo n nh g ns len tk (mSnap T.1, T.2)
def mBk (T : TV) (b : Int32) : Int32 := if T.1 13 = -1 ∧ mSnaps T.1 = true then b + 1 else b
def mStartP (F P : Nat → Int32) (n i : Nat) : Nat → Int32 := fun k => if k < i then -(nI (k + 1) * F 0 / nI (n + 1)) else P k
theorem mStartP_0 (F P : Nat → Int32) (n : Nat) : mStartP F P n 0 = P := by funext k; simp [mStartP]
theorem upd_mStartP (F P : Nat → Int32) (n i : Nat) : upd (mStartP F P n i) i (-(nI (i + 1) * F 0 / nI (n + 1))) = mStartP F P n (i + 1) := by
  funext k
  simp only [upd, mStartP]
  by_cases h : k = i
  · subst h; simp
  · rw [if_neg h]
    by_cases h2 : k < i
    · rw [if_pos h2, if_pos (by omega)]
    · rw [if_neg h2, if_neg (by omega)]
def mStartF (F : Nat → Int32) : Nat → Int32 := upd (upd (upd (upd (upd (upd F 9 0) 10 1000) 11 (F 6)) 12 0) 13 (-1)) 14 0
def mBegin (n : Nat) (T : TV) : TV := (mStartF T.1, mStartP T.1 T.2.1 n 8, cFill T.2.2.1 (-1) 3, cFill T.2.2.2 0 3)
def mAhead (A B : Nat → Int32) (a b : Nat) : Bool :=
  if ¬ A 13 = B 13 then decide (¬ A 13 = -1 ∧ (B 13 = -1 ∨ A 13 < B 13))
  else if A 13 = -1 ∧ ¬ A 9 = B 9 then decide (B 9 < A 9) else decide (a < b)
def mRank (tv : Nat → TV) (nt t : Nat) : Nat := cnt (fun o => decide (¬ o = t) && mAhead (tv o).1 (tv t).1 o t) nt
def mEnded (tv : Nat → TV) (nt : Nat) : Nat := cnt (fun t => decide (¬ (tv t).1 13 = -1)) nt
def mTold (F P L : Nat → Int32) (n : Nat) (w : Int32) : Int32 :=
  if w = 0 then F 9 else if w = 1 then F 10 else if w = 2 then F 11 else if w = 3 then F 12 else if w = 4 then nI (mMany F P L n 0) else if w = 5 then nI (mMany F P L n 1) else if w = 6 then nI (mMany F P L n 2) else if w = 7 then nI (mMany F P L n 3) else if w = 8 then F 13 else if w = 9 then F 7 else if w = 10 then F 8 else if w = 11 then F 14 else nI (mMany F P L n (w - 4))

/-- what a row keeps to -/
def mOK (T : TV) : Prop := (∃ n : Nat, n ≤ 8 ∧ T.1 2 = nI n) ∧ (∃ h : Nat, h ≤ 3 ∧ T.1 5 = nI h) ∧ ¬ T.1 1 = 0 ∧ mHold T.2.2.1
def mN (T : TV) : Nat := (T.1 2).toNatClampNeg
def mH (T : TV) : Nat := (T.1 5).toNatClampNeg
theorem mOK.n {T : TV} (h : mOK T) : mN T ≤ 8 ∧ T.1 2 = nI (mN T) := by
  obtain ⟨n, h1, h2⟩ := h.1
  unfold mN
  rw [h2, nI_clamp (by omega)]
  exact ⟨h1, rfl⟩
theorem mOK.h {T : TV} (h : mOK T) : mH T ≤ 3 ∧ T.1 5 = nI (mH T) := by
  obtain ⟨n, h1, h2⟩ := h.2.1
  unfold mH
  rw [h2, nI_clamp (by omega)]
  exact ⟨h1, rfl⟩
def mTickT (g : Nat → Int32) (ns : Nat) (len tk : Int32) (T : TV) : TV := mTick (mN T) (mH T) g ns len tk T
/-- the first t teams are changed by f -/
def mTv (f : TV → TV) (tv : Nat → TV) (t : Nat) : Nat → TV := fun a => if a < t then f (tv a) else tv a
theorem mTv_0 (f : TV → TV) (tv : Nat → TV) : mTv f tv 0 = tv := by funext a; simp [mTv]
theorem mTv_i (f : TV → TV) (tv : Nat → TV) (t : Nat) : mTv f tv t t = tv t := by simp [mTv]
theorem mTv_up (f : TV → TV) (tv : Nat → TV) (t : Nat) : setT (mTv f tv t) t (f (tv t)) = mTv f tv (t + 1) := by
  funext a
  simp only [setT, mTv]
  by_cases h : a = t
  · subst h; simp
  · rw [if_neg h]
    by_cases h2 : a < t
    · rw [if_pos h2, if_pos (by omega)]
    · rw [if_neg h2, if_neg (by omega)]
def bkS (tv : Nat → TV) (b : Int32) : Nat → Int32
  | 0 => b
  | t + 1 => mBk (tv t) (bkS tv b t)
