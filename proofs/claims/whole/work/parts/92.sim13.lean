/-! The simulation: a team at the start, with another crew, with another order -/
def RelS (F M : Nat → Int32) : Prop := (F 1 = M 0) ∧ (F 2 = M 1) ∧ (F 3 = M 2) ∧ (F 4 = M 3) ∧ (F 5 = M 4) ∧ (F 6 = M 5) ∧ (F 7 = M 6) ∧ (F 8 = M 7) ∧ (F 9 = M 8)
theorem RelF.s {F M : Nat → Int32} (h : RelF F M) : RelS F M := ⟨h.len, h.wt, h.rol, h.pul, h.str, h.run, h.who, h.eff, h.gap⟩
theorem RelS.start {F M : Nat → Int32} (h : RelS F M) : RelF (cStartF F) (mStartF M) := by
  obtain ⟨h1, h2, h3, h4, h5, h6, h7, h8, h9⟩ := h
  unfold cStartF mStartF
  rw [h7]
  exact ⟨h1, h2, h3, h4, h5, h6, h7, h8, h9, rfl, rfl, rfl, rfl, rfl, rfl⟩
theorem start_rng0 : ∀ k, k < 8 → ∀ n, n < 9 → ∀ w, w < 81 → k < n → 0 ≤ (nI (k + 1) * nI w / nI (n + 1)).toInt ∧ (nI (k + 1) * nI w / nI (n + 1)).toInt ≤ 80 := by decide +kernel
theorem i_neg {a : Int32} (ha : -1000000000 ≤ a.toInt ∧ a.toInt ≤ 1000000000) : (-a).toInt = -a.toInt := by
  rw [Int32.toInt_neg]
  exact Int.bmod_eq_of_le (by omega) (by omega)
theorem nat_rng {x : Int32} {b : Nat} (h : 0 ≤ x.toInt ∧ x.toInt ≤ b) : ∃ j : Nat, j ≤ b ∧ x = nI j := by
  obtain ⟨j, hj, e⟩ := nI_of (x := x) (fun z => by rw [Int32.lt_iff_toInt_lt, show (0 : Int32).toInt = 0 from by decide] at z; omega)
  refine ⟨j, ?_, e⟩
  have h2 := h.2
  rw [e, nI_toInt hj] at h2
  omega
theorem start_tm {F M P Q L L2 G G2 : Nat → Int32} {n : Nat} (hn : n ≤ 8) (h2 : M 2 = nI n) (h5 : ∃ h : Nat, h ≤ 3 ∧ M 5 = nI h) (hs : RelS F M) (hlen : 20 ≤ (M 0).toInt ∧ (M 0).toInt ≤ 80) (hgap : 1 ≤ (M 8).toInt ∧ (M 8).toInt ≤ 40) (hw : 0 < M 1) :
    Tm (cStartF F, cStartP F P n n, cFill L (-1) 3, cFill G 0 3) (mStartF M, mStartP M Q n 8, cFill L2 (-1) 3, cFill G2 0 3) := by
  have eN : mN (mStartF M, mStartP M Q n 8, cFill L2 (-1) 3, cFill G2 0 3) = n := by
    show (M 2).toNatClampNeg = n
    rw [h2, nI_clamp (by omega)]
  have hf3 : ∀ (X Y : Nat → Int32) (v : Int32) (r : Nat), r < 3 → cFill X v 3 r = cFill Y v 3 r := fun X Y v r hr => by unfold cFill; rw [if_pos hr, if_pos hr]
  have hm1 : ∀ r, r < 3 → cFill L2 (-1) 3 r = -1 := fun r hr => if_pos hr
  have hcar : ∀ k, k < 8 → mCar (cFill L2 (-1) 3) (nI k) = false := fun k hk => mCar_no (fun r hr z => by
    rw [hm1 r hr] at z
    exact absurd z.symm (nI_ne_m1 (by omega)))
  obtain ⟨w, hw1, hw2⟩ := nat_rng (x := M 0) (b := 80) ⟨by omega, hlen.2⟩
  refine ⟨?_, ?_, ?_, ?_, hw, fun _ => by show (0 : Int32).toInt < 2000; decide⟩
  · rw [eN]
    refine ⟨hs.start, fun k hk => ?_, fun r hr => hf3 L L2 (-1) r hr, fun r hr => hf3 G G2 0 r hr⟩
    show cStartP F P n n k = if mCar (cFill L2 (-1) 3) (nI k) = true then -9999 else mStartP M Q n 8 k
    rw [hcar k (by omega), if_neg (by decide)]
    unfold cStartP mStartP
    rw [if_pos hk, if_pos (show k < 8 by omega), hs.1, Int32.zero_sub]
  · rw [eN]
    refine ⟨hlen, hgap, ⟨by show 0 ≤ (0 : Int32).toInt; decide, by show (0 : Int32).toInt ≤ 2011; decide⟩, fun k hk _ => ?_⟩
    show -80 ≤ (mStartP M Q n 8 k).toInt ∧ (mStartP M Q n 8 k).toInt ≤ 2060
    unfold mStartP
    rw [if_pos (show k < 8 by omega), hw2]
    have h9 := start_rng0 k (by omega) n (by omega) w (by omega) hk
    rw [i_neg ⟨by omega, by omega⟩]
    omega
  · rw [eN]
    exact ⟨fun r hr => Or.inl (hm1 r hr), fun r q hr hq _ hne => absurd (hm1 r hr) hne⟩
  · refine ⟨⟨n, hn, h2⟩, h5, fun z => ?_, fun r hr => Or.inl (hm1 r hr)⟩
    have z2 : M 1 = 0 := z
    rw [z2] at hw
    exact absurd hw Int32.lt_irrefl
theorem Tm.start {T M : TV} (h : Tm T M) : Tm (cStartN T) (mBeginT M) := by
  unfold cStartN mBeginT mBegin
  rw [h.cn]
  exact start_tm h.ok.n.1 h.ok.n.2 h.ok.2.1 h.r.f.s h.b.len h.b.gap h.w
theorem isIn_int {x : Int32} {a b : Int32} (h : isIn x a b = true) : a.toInt ≤ x.toInt ∧ x.toInt ≤ b.toInt := by
  have h2 := of_decide_eq_true h
  rw [Int32.lt_iff_toInt_lt, Int32.lt_iff_toInt_lt] at h2
  omega
theorem new_tm {x a b d : Int32} {M : TV} (h1 : isIn a 20 80 = true) (h2 : isIn b 10 99 = true) (h3 : isIn d 2 8 = true) : Tm (cTeamNew x a b d.toNatClampNeg) (mBegin d.toNatClampNeg (mNewRow a b d M)) := by
  obtain ⟨n, hn1, hn2, rfl⟩ := isIn_rng (a := 2) (b := 8) (by decide) (by decide) h3
  rw [nI_clamp (by omega)]
  have k1 := isIn_int h1
  have k2 := isIn_int h2
  rw [show (20 : Int32).toInt = 20 from by decide, show (80 : Int32).toInt = 80 from by decide] at k1
  rw [show (10 : Int32).toInt = 10 from by decide, show (99 : Int32).toInt = 99 from by decide] at k2
  unfold cTeamNew mBegin
  refine start_tm hn2 rfl ⟨1, by decide, rfl⟩ ⟨rfl, rfl, rfl, rfl, rfl, rfl, rfl, rfl, rfl⟩ k1 ⟨by show 1 ≤ (10 : Int32).toInt; decide, by show (10 : Int32).toInt ≤ 40; decide⟩ ?_
  show 0 < b
  rw [Int32.lt_iff_toInt_lt, show (0 : Int32).toInt = 0 from by decide]
  omega
theorem crew_tm {T M : TV} {a b d r : Int32} (h : Tm T M) (hd : isIn d 1 3 = true) : Tm (upd (upd (upd (upd (upd T.1 4 a) 5 b) 6 d) 7 r) 12 r, T.2) (mCrewRow a b d r M) := by
  obtain ⟨j, hj1, hj2, e⟩ := isIn_rng (a := 1) (b := 3) (by decide) (by decide) hd
  unfold mCrewRow
  exact ⟨⟨⟨h.r.f.len, h.r.f.wt, h.r.f.rol, rfl, rfl, rfl, rfl, h.r.f.eff, h.r.f.gap, h.r.f.fro, h.r.f.bre, rfl, h.r.f.kno, h.r.f.way, h.r.f.fin⟩, h.r.p, h.r.l, h.r.g⟩, ⟨h.b.len, h.b.gap, h.b.fro, h.b.pla⟩, h.d, ⟨h.ok.1, ⟨j, hj2, e⟩, h.ok.2.2.1, h.ok.2.2.2⟩, h.w, h.f⟩
theorem order_tm {T M : TV} {a b : Int32} (h : Tm T M) (hb : isIn b 1 40 = true) : Tm (upd (upd T.1 8 a) 9 b, T.2) (upd (upd M.1 7 a) 8 b, M.2) := by
  have k1 := isIn_int hb
  rw [show (1 : Int32).toInt = 1 from by decide, show (40 : Int32).toInt = 40 from by decide] at k1
  exact ⟨⟨⟨h.r.f.len, h.r.f.wt, h.r.f.rol, h.r.f.pul, h.r.f.str, h.r.f.run, h.r.f.who, rfl, rfl, h.r.f.fro, h.r.f.bre, h.r.f.rop, h.r.f.kno, h.r.f.way, h.r.f.fin⟩, h.r.p, h.r.l, h.r.g⟩, ⟨h.b.len, k1, h.b.fro, h.b.pla⟩, h.d, ⟨h.ok.1, h.ok.2.1, h.ok.2.2.1, h.ok.2.2.2⟩, h.w, h.f⟩
