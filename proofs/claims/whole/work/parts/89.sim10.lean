/-! The simulation: all that is kept of a team; a tick keeps it; the ropes that broke -/
def Tm (T M : TV) : Prop := RelT T M (mN M) ∧ Bd M.1 M.2.1 M.2.2.1 (mN M) ∧ HoldD M.2.2.1 (mN M) ∧ mOK M ∧ 0 < M.1 1 ∧ (M.1 13 = -1 → (M.1 9).toInt < 2000)
theorem Tm.r {T M : TV} (h : Tm T M) : RelT T M (mN M) := h.1
theorem Tm.b {T M : TV} (h : Tm T M) : Bd M.1 M.2.1 M.2.2.1 (mN M) := h.2.1
theorem Tm.d {T M : TV} (h : Tm T M) : HoldD M.2.2.1 (mN M) := h.2.2.1
theorem Tm.ok {T M : TV} (h : Tm T M) : mOK M := h.2.2.2.1
theorem Tm.w {T M : TV} (h : Tm T M) : 0 < M.1 1 := h.2.2.2.2.1
theorem Tm.f {T M : TV} (h : Tm T M) : M.1 13 = -1 → (M.1 9).toInt < 2000 := h.2.2.2.2.2
theorem Tm.cn {T M : TV} (h : Tm T M) : cN T = mN M := by unfold cN mN; rw [h.r.f.rol]
theorem Tm.ch {T M : TV} (h : Tm T M) : cH T = mH M := by unfold cH mH; rw [h.r.f.run]
theorem Tm.cok {T M : TV} (h : Tm T M) : cOK T := by
  unfold cOK
  rw [h.cn, h.ch, h.r.f.rol, h.r.f.run]
  exact ⟨⟨h.ok.n.2, h.ok.n.1⟩, ⟨h.ok.h.2, h.ok.h.1⟩⟩
theorem mEnd_lt {len tk : Int32} (hlen : len.toInt ≤ 2000) (htk : ¬ tk = -1) (Y : TV) : (mEnd len tk Y).1 13 = -1 → ((mEnd len tk Y).1 9).toInt < 2000 := by
  intro hh
  by_cases q : Y.1 9 < len
  · have e : mEnd len tk Y = Y := if_pos q
    rw [e]
    rw [Int32.lt_iff_toInt_lt] at q
    omega
  · have e : mEnd len tk Y = (upd Y.1 13 tk, Y.2) := if_neg q
    rw [e] at hh
    exact absurd hh htk
theorem mTick_end {n nh ms : Nat} {g : Nat → Int32} {len tk : Int32} {M : TV} (hlen : len.toInt ≤ 2000) (htk : ¬ tk = -1) (h : M.1 13 = -1 → (M.1 9).toInt < 2000) :
    (mTick n nh g ms len tk M).1 13 = -1 → ((mTick n nh g ms len tk M).1 9).toInt < 2000 := by
  by_cases c : M.1 13 = -1
  · by_cases d : 0 < mSnap M.1 12
    · have e1 : mTick n nh g ms len tk M = mBreathe 0 (upd (upd (mSnap M.1) 12 (mSnap M.1 12 - 1)) 14 0, M.2) := (if_neg (fun z => z c)).trans (if_pos d)
      rw [e1]
      intro _
      show (mSnap M.1 9).toInt < 2000
      rw [mSnap_of (by decide) (by decide)]
      exact h c
    · have e1 : mTick n nh g ms len tk M = mGo n nh g ms len tk (mSnap M.1, M.2) := (if_neg (fun z => z c)).trans (if_neg d)
      rw [e1]
      exact mEnd_lt hlen htk _
  · have e1 : mTick n nh g ms len tk M = M := if_pos c
    rw [e1]; exact h
theorem mN_tick (g : Nat → Int32) (ms : Nat) (len tk : Int32) (M : TV) : mN (mTickT g ms len tk M) = mN M := by
  unfold mN mTickT; rw [mTick_k _ _ _ _ _ _ _ (by decide)]
theorem tick_tm {T M : TV} {ns ms : Nat} {S U V g : Nat → Int32} {len tk : Int32} (h : Tm T M) (hG : RelG S U V ns g ms) (hlen : len.toInt ≤ 2000) (htk : ¬ tk = -1) : Tm (cTickN S U V ns len tk T) (mTickT g ms len tk M) := by
  have hn := mN_tick g ms len tk M
  obtain ⟨h1, h2, h3⟩ := tick_rel (nh := mH M) (len := len) (tk := tk) h.ok.n.1 h.ok.h.1 h.r h.b h.d h.w hG h.f
  refine ⟨?_, ?_, ?_, mTickT_ok h.ok, ?_, mTick_end hlen htk h.f⟩
  · rw [hn]; unfold cTickN; rw [h.cn, h.ch]; exact h1
  · rw [hn]; exact h2
  · rw [hn]; exact h3
  · show 0 < (mTick (mN M) (mH M) g ms len tk M).1 1
    rw [mTick_k _ _ _ _ _ _ _ (by decide)]; exact h.w
/-- one more rope, or none -/
def dk (M : TV) : Int32 := if M.1 13 = -1 ∧ mSnaps M.1 = true then 1 else 0
theorem mBk_dk (M : TV) (b : Int32) : mBk M b = b + dk M := by
  unfold mBk dk; split
  · rfl
  · rw [Int32.add_zero]
theorem cSend_dummy : True := trivial
theorem cTick_14 {n nh ns : Nat} {S U V : Nat → Int32} {len tk : Int32} {T : TV} : (cTick n nh S U V ns len tk T).1 14 = if cE T.1 = true then T.1 14 else cSnap T.1 14 := by
  unfold cTick
  split
  · rfl
  · split
    · rfl
    · unfold cTickA
      show cT6 _ _ _ 14 = _
      unfold cT6 cT5 cT4 cT3
      split
      · rw [upd_ne (by decide), upd_ne (by decide), upd_ne (by decide)]
      · rw [upd_ne (by decide), upd_ne (by decide), upd_ne (by decide), upd_ne (by decide)]
theorem tick_bk {T M : TV} {ns : Nat} {S U V : Nat → Int32} {len tk : Int32} (h : RelF T.1 M.1) : (cTickN S U V ns len tk T).1 14 = T.1 14 + dk M := by
  unfold cTickN
  rw [cTick_14]
  unfold dk
  by_cases c : M.1 13 = -1
  · have hE : ¬ cE T.1 = true := fun z => of_decide_eq_true z (h.fin.trans c)
    rw [if_neg hE]
    unfold cSnap
    by_cases q : T.1 13 = 0 ∧ T.1 12 < cPull T.1
    · rw [if_pos q, if_pos ⟨c, h.snaps.mp q⟩]; rfl
    · rw [if_neg q, if_neg (fun z => q (h.snaps.mpr z.2)), Int32.add_zero]
  · have hE : cE T.1 = true := decide_eq_true (fun z => c (h.fin.symm.trans z))
    rw [if_pos hE, if_neg (fun z => c z.1), Int32.add_zero]
theorem bkS_add (tv : Nat → TV) (x y : Int32) : ∀ i, bkS tv (x + y) i = bkS tv x i + y
  | 0 => rfl
  | i + 1 => by
    show mBk (tv i) (bkS tv (x + y) i) = mBk (tv i) (bkS tv x i) + y
    rw [mBk_dk, mBk_dk, bkS_add tv x y i]
    ac_rfl
/-! The world's teams -/
def Wd (n : Nat) (T tv : Nat → TV) : Prop := ∀ t, t < n → Tm (T (t + 2)) (tv t) ∧ (T (t + 2)).1 0 = nI t
theorem Wd.t {n : Nat} {T tv : Nat → TV} (h : Wd n T tv) {t : Nat} (ht : t < n) : Tm (T (t + 2)) (tv t) := (h t ht).1
theorem Wd.teams {n : Nat} {T tv : Nat → TV} (h : Wd n T tv) : cTeams T n := fun t ht => (h.t ht).cok
theorem Wd.mok {n : Nat} {T tv : Nat → TV} (h : Wd n T tv) : ∀ t, t < n → mOK (tv t) := fun t ht => (h.t ht).ok
theorem eachT_t (f : TV → TV) (T : Nat → TV) {n t : Nat} (ht : t < n) : eachT f T n (t + 2) = f (T (t + 2)) := by rw [eachT_get, if_pos (by omega)]
theorem mTv_t (f : TV → TV) (tv : Nat → TV) {n t : Nat} (ht : t < n) : mTv f tv n t = f (tv t) := if_pos ht
theorem cTickN_0 {S U V : Nat → Int32} {ns : Nat} {len tk : Int32} {T : TV} {j : Nat} (h : j < 10) : (cTickN S U V ns len tk T).1 j = T.1 j := cTick_of h
theorem step_wd {n ns ms : Nat} {S U V g : Nat → Int32} {len tk : Int32} {T tv : Nat → TV} (h : Wd n T tv) (hG : RelG S U V ns g ms) (hlen : len.toInt ≤ 2000) (htk : ¬ tk = -1) :
    Wd n (eachT (cTickN S U V ns len tk) T n) (mTv (mTickT g ms len tk) tv n) := by
  intro t ht
  rw [eachT_t _ _ ht, mTv_t _ _ ht]
  exact ⟨tick_tm (h.t ht) hG hlen htk, (cTickN_0 (by decide)).trans (h t ht).2⟩
theorem step_bk {n ns : Nat} {S U V : Nat → Int32} {len tk : Int32} {T tv : Nat → TV} (h : Wd n T tv) : ∀ i, i ≤ n → cBroke (eachT (cTickN S U V ns len tk) T n) i = bkS tv (cBroke T i) i
  | 0, _ => rfl
  | i + 1, hi => by
    show cBroke (eachT (cTickN S U V ns len tk) T n) i + (eachT (cTickN S U V ns len tk) T n (i + 2)).1 14 = mBk (tv i) (bkS tv (cBroke T i + (T (i + 2)).1 14) i)
    rw [step_bk h i (by omega), eachT_t _ _ (show i < n by omega), tick_bk (h.t (by omega)).r.f, mBk_dk, bkS_add]
    ac_rfl
theorem it_tick {g : Nat → Int32} {ms nt : Nat} {X : (Nat → Int32) × (Nat → TV)} : ∀ k, (mIt g ms nt X k).1 1 = X.1 1 + nI k
  | 0 => by show X.1 1 = X.1 1 + nI 0; rw [nI_0, Int32.add_zero]
  | k + 1 => by
    show (mIt g ms nt X k).1 1 + 1 = X.1 1 + nI (k + 1)
    rw [it_tick k, Int32.add_assoc, nI_1]
theorem tk_ne {tk k : Nat} (h : tk + k ≤ 1000000) : ¬ nI tk + nI k + 1 = -1 := fun z => by
  rw [nI_add, nI_1] at z
  have := congrArg Int32.toInt z
  rw [nI_toInt (by omega), show (-1 : Int32).toInt = -1 from by decide] at this
  omega
theorem run_wd {n ns ms tk : Nat} {S U V g MF : Nat → Int32} {T tv : Nat → TV} (h : Wd n T tv) (hG : RelG S U V ns g ms) (hlen : (MF 3).toInt ≤ 2000) (htk : MF 1 = nI tk) (hbk : MF 4 = cBroke T n) : ∀ k, tk + k ≤ 1000000 →
    Wd n (cRunT S U V ns (MF 3) (MF 1) T n k) (mIt g ms n (MF, tv) k).2 ∧ (mIt g ms n (MF, tv) k).1 4 = cBroke (cRunT S U V ns (MF 3) (MF 1) T n k) n
  | 0, _ => ⟨h, hbk⟩
  | k + 1, hk => by
    obtain ⟨h1, h2⟩ := run_wd h hG hlen htk hbk k (by omega)
    have e3 : (mIt g ms n (MF, tv) k).1 3 = MF 3 := mIt_k (by decide) (by decide) k
    have e1 : (mIt g ms n (MF, tv) k).1 1 = MF 1 + nI k := it_tick k
    show Wd n (eachT (cTickN S U V ns (MF 3) (MF 1 + nI k + 1)) (cRunT S U V ns (MF 3) (MF 1) T n k) n) (mTv (mTickT g ms ((mIt g ms n (MF, tv) k).1 3) ((mIt g ms n (MF, tv) k).1 1 + 1)) (mIt g ms n (MF, tv) k).2 n) ∧ bkS (mIt g ms n (MF, tv) k).2 ((mIt g ms n (MF, tv) k).1 4) n = cBroke (eachT (cTickN S U V ns (MF 3) (MF 1 + nI k + 1)) (cRunT S U V ns (MF 3) (MF 1) T n k) n) n
    rw [e3, e1, h2]
    exact ⟨step_wd h1 hG hlen (by rw [htk]; exact tk_ne (by omega)), (step_bk h1 n (Nat.le_refl n)).symm⟩
/-- a team alone races on -/
def itT (g : Nat → Int32) (ms : Nat) (len tick : Int32) (M : TV) : Nat → TV
  | 0 => M
  | k + 1 => mTickT g ms len (tick + nI k + 1) (itT g ms len tick M k)
theorem mIt_team {g : Nat → Int32} {ms nt i : Nat} {X : (Nat → Int32) × (Nat → TV)} (hi : i < nt) : ∀ k, (mIt g ms nt X k).2 i = itT g ms (X.1 3) (X.1 1) (X.2 i) k
  | 0 => rfl
  | k + 1 => by
    show mTv (mTickT g ms ((mIt g ms nt X k).1 3) ((mIt g ms nt X k).1 1 + 1)) (mIt g ms nt X k).2 nt i = mTickT g ms (X.1 3) (X.1 1 + nI k + 1) (itT g ms (X.1 3) (X.1 1) (X.2 i) k)
    rw [mTv_t _ _ hi, mIt_k (by decide) (by decide) k, it_tick k, mIt_team hi k]
theorem look_tm {ns ms tk : Nat} {S U V g : Nat → Int32} {len tick e : Int32} {T M : TV} (h : Tm (upd T.1 8 e, T.2) M) (hG : RelG S U V ns g ms) (hlen : len.toInt ≤ 2000) (htk : tick = nI tk) : ∀ k, tk + k ≤ 1000000 →
    Tm (cLook S U V ns len tick e T k) (itT g ms len tick M k) ∧ (cLook S U V ns len tick e T k).1 0 = T.1 0
  | 0, _ => ⟨h, rfl⟩
  | k + 1, hk => by
    obtain ⟨h1, h2⟩ := look_tm h hG hlen htk k (by omega)
    show Tm (cTickN S U V ns len (tick + nI (k + 1)) (cLook S U V ns len tick e T k)) (mTickT g ms len (tick + nI k + 1) (itT g ms len tick M k)) ∧ (cTickN S U V ns len (tick + nI (k + 1)) (cLook S U V ns len tick e T k)).1 0 = T.1 0
    rw [← nI_1, ← Int32.add_assoc]
    exact ⟨tick_tm h1 hG hlen (by rw [htk]; exact tk_ne (by omega)), (cTickN_0 (by decide)).trans h2⟩
theorem upd_self (f : Nat → Int32) (i : Nat) : upd f i (f i) = f := by
  funext j; unfold upd; split
  · rename_i h; rw [h]
  · rfl
theorem Tm.eff {T M : TV} (h : Tm T M) (e : Int32) : Tm (upd T.1 8 e, T.2) (upd M.1 7 e, M.2) :=
  ⟨⟨⟨h.r.f.len, h.r.f.wt, h.r.f.rol, h.r.f.pul, h.r.f.str, h.r.f.run, h.r.f.who, rfl, h.r.f.gap, h.r.f.fro, h.r.f.bre, h.r.f.rop, h.r.f.kno, h.r.f.way, h.r.f.fin⟩, h.r.p, h.r.l, h.r.g⟩, h.b, h.d, h.ok, h.w, h.f⟩
theorem Tm.same {T M : TV} (h : Tm T M) : Tm (upd T.1 8 (T.1 8), T.2) M := by rw [upd_self]; exact h
