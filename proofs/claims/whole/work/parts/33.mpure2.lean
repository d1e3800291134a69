/-! THE REFERENCE'S CALLS, as functions of its ints MF, its ground g and its table tv -/
def ft (q : Nat → Bool) : Nat → Nat
  | 0 => 0
  | i + 1 => if ft q i < i then ft q i else if q i = true then i else i + 1
theorem ft_le (q : Nat → Bool) : ∀ i, ft q i ≤ i
  | 0 => Nat.le_refl 0
  | i + 1 => by have := ft_le q i; unfold ft; split <;> (try split) <;> omega
theorem ft_no (q : Nat → Bool) : ∀ i k, k < ft q i → q k = false
  | 0, k, h => absurd h (Nat.not_lt_zero k)
  | i + 1, k, h => by
    have ih := ft_no q i
    have hl := ft_le q i
    unfold ft at h
    split at h
    · exact ih k h
    · split at h
      · exact ih k (by omega)
      · rcases Nat.lt_or_ge k i with z | z
        · exact ih k (by omega)
        · have : k = i := by omega
          subst this
          simp_all
theorem ft_yes (q : Nat → Bool) : ∀ i, ft q i < i → q (ft q i) = true
  | 0, h => absurd h (Nat.not_lt_zero _)
  | i + 1, h => by
    have ih := ft_yes q i
    unfold ft at h ⊢
    split
    · exact ih (by assumption)
    · split
      · assumption
      · rename_i h1 h2
        rw [if_neg h1, if_neg h2] at h
        omega
theorem ft_lt {q : Nat → Bool} {n j : Nat} (hj : j < n) (h : q j = true) : ft q n < n := by
  rcases Nat.lt_or_ge (ft q n) n with z | z
  · exact z
  · have := ft_no q n j (by omega)
    rw [h] at this; cases this
theorem ft_cong {q r : Nat → Bool} {n : Nat} (h : ∀ k, k < n → q k = r k) : ft q n = ft r n := by
  induction n with
  | zero => rfl
  | succ n ih =>
    unfold ft
    rw [ih (fun k hk => h k (by omega)), h n (by omega)]
theorem cnt_cong {q r : Nat → Bool} : ∀ {n : Nat}, (∀ k, k < n → q k = r k) → cnt q n = cnt r n
  | 0, _ => rfl
  | n + 1, h => by unfold cnt; rw [cnt_cong (fun k hk => h k (by omega)), h n (by omega)]
def mAt (tv : Nat → TV) (nt : Nat) (k : Int32) : Nat := ft (fun t => decide (nI (mRank tv nt t) = k)) nt
def mCount (MF : Nat → Int32) (tv : Nat → TV) (nt : Nat) (w : Int32) : Int32 :=
  if w = 0 then MF 1 else if w = 1 then MF 2 else if w = 2 then MF 3 else if w = 3 then MF 5 else if w = 4 then nI (mEnded tv nt) else MF 4
def mToldT (T : TV) (w : Int32) : Int32 := mTold T.1 T.2.1 T.2.2.1 (mN T) w
theorem isIn_nat {x : Int32} {b : Nat} (hb : b < 1000000) (h : isIn x 0 (nI b - 1) = true) : ∃ i : Nat, i < b ∧ x = nI i := by
  have h2 := of_decide_eq_true h
  rcases pk_ix x (n := b) (by omega) with q | q | q
  · exact absurd q h2.1
  · refine absurd ?_ h2.2
    rw [Int32.lt_iff_toInt_lt]
    rw [Int32.le_iff_toInt_le, nI_toInt (by omega)] at q
    have e : (nI b - 1).toInt = (b : Int) - 1 := by
      have := pk_sub_toInt (a := b) (b := 1) (by omega) (by decide)
      exact this
    rw [e]; omega
  · exact q
theorem isIn_rng {x : Int32} {a b : Nat} (hb : b < 1000000) (hab : a ≤ b) (h : isIn x (nI a) (nI b) = true) : ∃ i : Nat, a ≤ i ∧ i ≤ b ∧ x = nI i := by
  have h2 := of_decide_eq_true h
  rcases pk_ix x (n := b + 1) (by omega) with q | q | ⟨j, hj, rfl⟩
  · exact absurd (Int32.lt_of_lt_of_le q (by rw [← nI_0]; exact nI_le (Nat.zero_le a) (by omega))) h2.1
  · exact absurd (Int32.lt_of_lt_of_le (nI_lt (Nat.lt_succ_self b) (by omega)) q) h2.2
  · exact ⟨j, Nat.not_lt.mp (fun z => h2.1 (nI_lt z (by omega))), by omega, rfl⟩
theorem mRun_ok2 (n r : Nat) (T : TV) : (mRun n r T).1 = T.1 := mRun_F n r T
theorem mSnap_k {F : Nat → Int32} {j : Nat} (h1 : j ≠ 11) (h2 : j ≠ 12) : mSnap F j = F j := by
  unfold mSnap; split
  · unfold mSnapF; rw [pk_un h2, pk_un h1]
  · rfl
theorem mTick_k (n nh : Nat) (g : Nat → Int32) (ns : Nat) (len tk : Int32) (T : TV) {j : Nat} (h : j < 9) : (mTick n nh g ns len tk T).1 j = T.1 j := by
  unfold mTick
  split
  · rfl
  · split
    · show upd (upd (upd (mSnap T.1) 12 _) 14 0) 10 _ j = _
      rw [pk_un (by omega), pk_un (by omega), pk_un (by omega), mSnap_k (by omega) (by omega)]
    · have e : ∀ Y : TV, (mEnd len tk (mBreathe (Y.1 7) Y)).1 j = Y.1 j := by
        intro Y
        unfold mEnd mBreathe
        split
        · show upd _ _ _ _ = _; rw [pk_un (by omega)]
        · show upd (upd _ _ _) _ _ _ = _; rw [pk_un (by omega), pk_un (by omega)]
      unfold mGo
      rw [e, mSend_F]
      show upd (upd (mSnap T.1) 9 _) 14 _ j = _
      rw [pk_un (by omega), pk_un (by omega), mSnap_k (by omega) (by omega)]
theorem mTick_hold {n nh : Nat} {g : Nat → Int32} {ns : Nat} {len tk : Int32} {T : TV} (hn : n ≤ 8) (h : mHold T.2.2.1) : mHold (mTick n nh g ns len tk T).2.2.1 := by
  unfold mTick
  split
  · exact h
  · split
    · exact h
    · have e : ∀ Y : TV, (mEnd len tk (mBreathe (Y.1 7) Y)).2.2.1 = Y.2.2.1 := by
        intro Y
        unfold mEnd mBreathe
        split <;> rfl
      unfold mGo
      rw [e]
      exact mSend_hold (T := mRoll n g ns (mSnap T.1, T.2)) hn h nh
theorem mTickT_ok {g : Nat → Int32} {ns : Nat} {len tk : Int32} {T : TV} (h : mOK T) : mOK (mTickT g ns len tk T) := by
  unfold mTickT
  refine ⟨?_, ?_, ?_, mTick_hold h.n.1 h.2.2.2⟩
  · rw [mTick_k _ _ _ _ _ _ _ (by decide)]; exact h.1
  · rw [mTick_k _ _ _ _ _ _ _ (by decide)]; exact h.2.1
  · rw [mTick_k _ _ _ _ _ _ _ (by decide)]; exact h.2.2.1
theorem mBegin_ok {n : Nat} {T : TV} (h : mOK T) : mOK (mBegin n T) := by
  refine ⟨h.1, h.2.1, h.2.2.1, fun r hr => Or.inl ?_⟩
  show cFill _ _ _ _ = _
  unfold cFill; rw [if_pos hr]
/-- a tick of all -/
def mStep (g : Nat → Int32) (ns nt : Nat) (X : (Nat → Int32) × (Nat → TV)) : (Nat → Int32) × (Nat → TV) :=
  (upd (upd X.1 1 (X.1 1 + 1)) 4 (bkS X.2 (X.1 4) nt), mTv (mTickT g ns (X.1 3) (X.1 1 + 1)) X.2 nt)
def mIt (g : Nat → Int32) (ns nt : Nat) (X : (Nat → Int32) × (Nat → TV)) : Nat → (Nat → Int32) × (Nat → TV)
  | 0 => X
  | k + 1 => mStep g ns nt (mIt g ns nt X k)
/-- what the ticks keep -/
def mKeep (nt ns : Nat) (X : (Nat → Int32) × (Nat → TV)) : Prop := X.1 2 = nI nt ∧ X.1 5 = nI ns ∧ ∀ t, t < nt → mOK (X.2 t)
theorem mKeep.step {g : Nat → Int32} {ns nt : Nat} {X : (Nat → Int32) × (Nat → TV)} (h : mKeep nt ns X) : mKeep nt ns (mStep g ns nt X) := by
  refine ⟨h.1, h.2.1, fun t ht => ?_⟩
  show mOK (mTv _ X.2 nt t)
  unfold mTv
  rw [if_pos ht]
  exact mTickT_ok (h.2.2 t ht)
theorem mKeep.it {g : Nat → Int32} {ns nt : Nat} {X : (Nat → Int32) × (Nat → TV)} (h : mKeep nt ns X) : ∀ k, mKeep nt ns (mIt g ns nt X k)
  | 0 => h
  | k + 1 => (mKeep.it h k).step
def mSetLength (l : Int32) (MF : Nat → Int32) : Int32 × (Nat → Int32) :=
  if isIn l 100 2000 = true then (if MF 1 = 0 then (MF 3, upd (upd MF 0 0) 3 l) else (0, upd MF 0 2)) else (0, upd MF 0 1)
def mGround (x : Int32) (b : Nat) (MF g : Nat → Int32) (ns : Nat) : Int32 × (Nat → Int32) :=
  if isIn x (-100) 3000 = true then (g (3 * mStr g x (ns - 1) + b), upd MF 0 0) else (0, upd MF 0 1)
def mOrder (x e w : Int32) (MF : Nat → Int32) (tv : Nat → TV) : Int32 × (Nat → Int32) × (Nat → TV) :=
  if isIn x 0 (MF 2 - 1) = true then
    (if (isIn e 0 10 && isIn w 1 40) = true then ((tv x.toNatClampNeg).1 7, upd MF 0 0, setT tv x.toNatClampNeg (upd (upd (tv x.toNatClampNeg).1 7 e) 8 w, (tv x.toNatClampNeg).2)) else (0, upd MF 0 2, tv))
  else (0, upd MF 0 1, tv)
def mRunC (x : Int32) (MF : Nat → Int32) (g : Nat → Int32) (ns nt : Nat) (tv : Nat → TV) : Int32 × (Nat → Int32) × (Nat → TV) :=
  if isIn x 1 500 = true then
    (if MF 2 = 0 then (0, upd MF 0 2, tv) else (nI (mEnded (mIt g ns nt (upd MF 0 0, tv) x.toNatClampNeg).2 nt), (mIt g ns nt (upd MF 0 0, tv) x.toNatClampNeg).1, (mIt g ns nt (upd MF 0 0, tv) x.toNatClampNeg).2))
  else (0, upd MF 0 1, tv)
def mBeginT (T : TV) : TV := mBegin (mN T) T
def mRestartF (MF : Nat → Int32) : Nat → Int32 := upd (upd (upd MF 0 0) 1 0) 4 0
def mCountC (w : Int32) (MF : Nat → Int32) (tv : Nat → TV) (nt : Nat) : Int32 × (Nat → Int32) :=
  if isIn w 0 5 = true then (mCount MF tv nt w, upd MF 0 0) else (0, upd MF 0 1)
def mTeamC (x w : Int32) (MF : Nat → Int32) (tv : Nat → TV) : Int32 × (Nat → Int32) :=
  if (isIn x 0 (MF 2 - 1) && isIn w 0 11) = true then (mToldT (tv x.toNatClampNeg) w, upd MF 0 0) else (0, upd MF 0 1)
def mRollerC (x k : Int32) (MF : Nat → Int32) (tv : Nat → TV) : Int32 × (Nat → Int32) :=
  if (isIn x 0 (MF 2 - 1) && isIn k 0 ((tv x.toNatClampNeg).1 2 - 1)) = true then
    (if mCar (tv x.toNatClampNeg).2.2.1 k = true then (0, upd MF 0 2) else ((tv x.toNatClampNeg).2.1 k.toNatClampNeg, upd MF 0 0))
  else (0, upd MF 0 1)
def mNextC (x w : Int32) (MF g : Nat → Int32) (ns : Nat) (tv : Nat → TV) : Int32 × (Nat → Int32) :=
  if (isIn x 0 (MF 2 - 1) && isIn w 0 2) = true then
    (if w = 0 then mPull (tv x.toNatClampNeg).1 else if w = 1 then mDrag (tv x.toNatClampNeg).1 (tv x.toNatClampNeg).2.1 (tv x.toNatClampNeg).2.2.1 (mN (tv x.toNatClampNeg)) g ns else mWay (tv x.toNatClampNeg).1 (tv x.toNatClampNeg).2.1 (tv x.toNatClampNeg).2.2.1 (mN (tv x.toNatClampNeg)) g ns, upd MF 0 0)
  else (0, upd MF 0 1)
def mRankedC (k : Int32) (MF : Nat → Int32) (tv : Nat → TV) (nt : Nat) : Int32 × (Nat → Int32) :=
  if isIn k 0 (MF 2 - 1) = true then (nI (mAt tv nt k), upd MF 0 0) else (0, upd MF 0 1)
/-- what a look ahead tells of the world X -/
def mSee (X : (Nat → Int32) × (Nat → TV)) (nt : Nat) (i : Nat) (w : Int32) : Int32 :=
  if w = 0 then (X.2 i).1 9 else if w = 1 then nI (mRank X.2 nt i) else (X.2 i).1 10
def mSeeC (x k w : Int32) (MF g : Nat → Int32) (ns nt : Nat) (tv : Nat → TV) : Int32 × (Nat → Int32) :=
  if (isIn x 0 (MF 2 - 1) && isIn w 0 2) = true then
    (if isIn k 1 400 = true then (mSee (mIt g ns nt (upd MF 0 0, tv) k.toNatClampNeg) nt x.toNatClampNeg w, upd MF 0 0) else (0, upd MF 0 2))
  else (0, upd MF 0 1)
def mSeeZ (x k w : Int32) (MF : Nat → Int32) (tv : Nat → TV) (z : Nat → Int32) : Nat → Int32 :=
  if ((isIn x 0 (MF 2 - 1) && isIn w 0 2) && isIn k 1 400) = true then tab tv else z
/-- the front of team i in k ticks with the effort e -/
def mTry (MF g : Nat → Int32) (ns nt : Nat) (tv : Nat → TV) (i k : Nat) (e : Int32) : Int32 :=
  ((mIt g ns nt (upd MF 0 0, setT tv i (upd (tv i).1 7 e, (tv i).2)) k).2 i).1 9
/-- the best of the first e efforts, and its front -/
def mBest (h : Nat → Int32) : Nat → Int32 × Int32
  | 0 => (0, -1)
  | e + 1 => if (mBest h e).2 < h e then (nI e, h e) else mBest h e
def mAdviseC (x k : Int32) (MF g : Nat → Int32) (ns nt : Nat) (tv : Nat → TV) : Int32 × (Nat → Int32) :=
  if isIn x 0 (MF 2 - 1) = true then
    (if isIn k 1 200 = true then ((mBest (fun e => mTry MF g ns nt tv x.toNatClampNeg k.toNatClampNeg (nI e)) 11).1, upd MF 0 0) else (0, upd MF 0 2))
  else (0, upd MF 0 1)
def mSum (tv : Nat → TV) : Nat → Int32
  | 0 => 0
  | t + 1 => mSum tv t + (tv t).1 9
/-- the digest of a team, and of all -/
def mDg (T : TV) (d : Int64) : Int64 :=
  dgL (fun k => if mCar T.2.2.1 (nI k) = true then -9999 else T.2.1 k) (dgL (fun w => mToldT T (nI w)) d 12) (mN T)
def mDgs (tv : Nat → TV) (d : Int64) : Nat → Int64
  | 0 => d
  | t + 1 => mDg (tv t) (mDgs tv d t)
def mDigest (MF : Nat → Int32) (tv : Nat → TV) (nt : Nat) : Int64 :=
  dgL (fun r => nI (mAt tv nt (nI r))) (mDgs tv (dgL (fun w => mCount MF tv nt (nI w)) 461 6) nt) nt
theorem mStep_k {g : Nat → Int32} {ns nt : Nat} {X : (Nat → Int32) × (Nat → TV)} {j : Nat} (h1 : j ≠ 1) (h4 : j ≠ 4) : (mStep g ns nt X).1 j = X.1 j := by
  show upd (upd X.1 1 _) 4 _ j = _
  rw [pk_un h4, pk_un h1]
theorem mIt_k {g : Nat → Int32} {ns nt : Nat} {X : (Nat → Int32) × (Nat → TV)} {j : Nat} (h1 : j ≠ 1) (h4 : j ≠ 4) : ∀ k, (mIt g ns nt X k).1 j = X.1 j
  | 0 => rfl
  | k + 1 => by show (mStep g ns nt (mIt g ns nt X k)).1 j = _; rw [mStep_k h1 h4, mIt_k h1 h4 k]
theorem bkS_le (tv : Nat → TV) (b : Int32) : ∀ t, bkS tv b t = bkS tv b t := fun _ => rfl
