/-! The simulation: the whole race beside the reference, and each call -/
def Rel (n ns tk : Nat) (KF S U V : Nat → Int32) (T : Nat → TV) (MF g : Nat → Int32) (tv : Nat → TV) : Prop :=
  n ≤ 6 ∧ (0 < ns ∧ ns ≤ 12) ∧ KF 3 = nI ns ∧ MF 2 = nI n ∧ MF 1 = nI tk ∧ MF 3 = KF 4 ∧ (100 ≤ (KF 4).toInt ∧ (KF 4).toInt ≤ 2000) ∧ MF 5 = nI ns ∧ MF 4 = cBroke T n ∧ Grd S U V ns g ∧ Wd n T tv
section REL
variable {n ns tk : Nat} {KF S U V : Nat → Int32} {T : Nat → TV} {MF g : Nat → Int32} {tv : Nat → TV}
theorem Rel.n6 (h : Rel n ns tk KF S U V T MF g tv) : n ≤ 6 := h.1
theorem Rel.ns0 (h : Rel n ns tk KF S U V T MF g tv) : 0 < ns := h.2.1.1
theorem Rel.ns12 (h : Rel n ns tk KF S U V T MF g tv) : ns ≤ 12 := h.2.1.2
theorem Rel.k3 (h : Rel n ns tk KF S U V T MF g tv) : KF 3 = nI ns := h.2.2.1
theorem Rel.m2 (h : Rel n ns tk KF S U V T MF g tv) : MF 2 = nI n := h.2.2.2.1
theorem Rel.m1 (h : Rel n ns tk KF S U V T MF g tv) : MF 1 = nI tk := h.2.2.2.2.1
theorem Rel.m3 (h : Rel n ns tk KF S U V T MF g tv) : MF 3 = KF 4 := h.2.2.2.2.2.1
theorem Rel.len (h : Rel n ns tk KF S U V T MF g tv) : 100 ≤ (KF 4).toInt ∧ (KF 4).toInt ≤ 2000 := h.2.2.2.2.2.2.1
theorem Rel.m5 (h : Rel n ns tk KF S U V T MF g tv) : MF 5 = nI ns := h.2.2.2.2.2.2.2.1
theorem Rel.m4 (h : Rel n ns tk KF S U V T MF g tv) : MF 4 = cBroke T n := h.2.2.2.2.2.2.2.2.1
theorem Rel.gr (h : Rel n ns tk KF S U V T MF g tv) : Grd S U V ns g := h.2.2.2.2.2.2.2.2.2.1
theorem Rel.wd (h : Rel n ns tk KF S U V T MF g tv) : Wd n T tv := h.2.2.2.2.2.2.2.2.2.2
theorem Rel.th (h : Rel n ns tk KF S U V T MF g tv) (v : Int32) : Rel n ns tk KF S U V T (upd MF 0 v) g tv := ⟨h.n6, h.2.1, h.k3, h.m2, h.m1, h.m3, h.len, h.m5, h.m4, h.gr, h.wd⟩
end REL
/-- a call's outcomes on both sides: th is what the reference tells of its exception, v its answer -/
def Out (kc : String → Int32) (res : Int32 ⊕ String) (v th : Int32) (RL RR : Prop) : Prop := (th = hcode kc res ∧ ∀ x, res = .inl x → x = v) ∧ (∀ x, res = .inl x → RL) ∧ ∀ E, res = .inr E → RR
theorem out_l {kc : String → Int32} {v : Int32} {RL RR : Prop} (h : RL) : Out kc (.inl v) v 0 RL RR := ⟨⟨rfl, fun x e => (Sum.inl.inj e).symm⟩, fun _ _ => h, fun E e => by cases e⟩
theorem out_r {kc : String → Int32} {E : String} {v th : Int32} {RL RR : Prop} (e : th = kc E) (h : RR) : Out kc (.inr E) v th RL RR := ⟨⟨e, fun x e => (by cases e)⟩, fun x e => (by cases e), fun _ _ => h⟩
theorem kc12a : (1 : Int32) = hc12 xIAE := (if_pos rfl).symm
theorem kc12b : (2 : Int32) = hc12 xISE := (if_neg (by decide)).symm
theorem kc123a : (1 : Int32) = hc123 xIOB := (if_pos rfl).symm
theorem kc123b : (2 : Int32) = hc123 xIAE := ((if_neg (by decide)).trans (if_pos rfl)).symm
theorem kc123c : (3 : Int32) = hc123 xISE := ((if_neg (by decide)).trans (if_neg (by decide))).symm
theorem kcOAa : (1 : Int32) = hcOA xIOB := (if_pos rfl).symm
theorem kcOAb : (2 : Int32) = hcOA xIAE := (if_neg (by decide)).symm
theorem kcOAc : (2 : Int32) = hcOA xISE := (if_neg (by decide)).symm
theorem and2 {p q : Bool} : (p && q) = true ↔ p = true ∧ q = true := by cases p <;> cases q <;> simp
theorem and3 {p q r : Bool} : ((p && q) && r) = true ↔ p = true ∧ q = true ∧ r = true := by cases p <;> cases q <;> cases r <;> simp
theorem and4 {p q r t : Bool} : (((p && q) && r) && t) = true ↔ p = true ∧ q = true ∧ r = true ∧ t = true := by cases p <;> cases q <;> cases r <;> cases t <;> simp
theorem tk0 {tk : Nat} (h : nI tk = 0) (hb : tk < 1000000) : tk = 0 := by
  have := congrArg Int32.toNatClampNeg h
  rw [nI_clamp (by omega)] at this
  exact this
theorem cBroke_cong {T T' : Nat → TV} : ∀ {n : Nat}, (∀ t, t < n → (T' (t + 2)).1 14 = (T (t + 2)).1 14) → cBroke T' n = cBroke T n
  | 0, _ => rfl
  | n + 1, h => by
    show cBroke T' n + (T' (n + 2)).1 14 = cBroke T n + (T (n + 2)).1 14
    rw [cBroke_cong (fun t ht => h t (by omega)), h n (by omega)]
section REL
variable {n ns tk : Nat} {KF S U V : Nat → Int32} {T : Nat → TV} {MF g : Nat → Int32} {tv : Nat → TV}
theorem q_len (h : Rel n ns tk KF S U V T MF g tv) (x : Int32) : Out hc12 (rLen x KF (nI tk)) (mSetLength x MF).1 ((mSetLength x MF).2 0) (Rel n ns tk (upd KF 4 x) S U V T (mSetLength x MF).2 g tv) (Rel n ns tk KF S U V T (mSetLength x MF).2 g tv) := by
  by_cases c1 : isIn x 100 2000 = true
  · by_cases c2 : nI tk = 0
    · have e1 : rLen x KF (nI tk) = .inl (KF 4) := (if_pos c1).trans (if_pos c2)
      have e2 : mSetLength x MF = (MF 3, upd (upd MF 0 0) 3 x) := (if_pos c1).trans (if_pos (h.m1.trans c2))
      have k := isIn_int c1
      rw [show (100 : Int32).toInt = 100 from by decide, show (2000 : Int32).toInt = 2000 from by decide] at k
      rw [e1, e2, h.m3]
      exact out_l ⟨h.n6, h.2.1, h.k3, h.m2, h.m1, rfl, k, h.m5, h.m4, h.gr, h.wd⟩
    · have e1 : rLen x KF (nI tk) = .inr xISE := (if_pos c1).trans (if_neg c2)
      have e2 : mSetLength x MF = (0, upd MF 0 2) := (if_pos c1).trans (if_neg (fun z => c2 (h.m1.symm.trans z)))
      rw [e1, e2]
      exact out_r kc12b (h.th 2)
  · have e1 : rLen x KF (nI tk) = .inr xIAE := if_neg c1
    have e2 : mSetLength x MF = (0, upd MF 0 1) := if_neg c1
    rw [e1, e2]
    exact out_r kc12a (h.th 1)
theorem q_lay (h : Rel n ns tk KF S U V T MF g tv) (x a b : Int32) : Out hc12 (rLay x a b KF S ns) (mLay x a b MF g ns).1 ((mLay x a b MF g ns).2.1 0) (∃ ns2, Rel n ns2 tk (cPutK S ns x KF) (cPut S ns x S x) (cPut S ns x U a) (cPut S ns x V b) T (mLay x a b MF g ns).2.1 (mLay x a b MF g ns).2.2 tv) (Rel n ns tk KF S U V T (mLay x a b MF g ns).2.1 (mLay x a b MF g ns).2.2 tv) := by
  by_cases c1 : isIn x 0 1999 = true ∧ isIn a (-5) 5 = true ∧ isIn b 0 9 = true
  · have hx : ¬ x < 0 := (of_decide_eq_true c1.1).1
    have hle := fnd_le S x ns
    have h12 := h.ns12
    by_cases c2 : fnd S x ns < ns
    · have hk := (h.gr.has h.ns0 hx).mpr c2
      have c3 : fnd S x ns < 12 := by omega
      have eK : cPutK S ns x KF = KF := if_neg (fun z => absurd z.2 (by omega))
      have e1 : rLay x a b KF S ns = .inl (nI ns) := ((if_pos c1).trans (if_pos c3)).trans (by rw [eK, h.k3])
      have e2 : mLay x a b MF g ns = (nI ns, upd MF 0 0, va_cpy (mSaid3 x a b) g 0 (3 * mStr g x (ns - 1)) 3) := (if_pos (and3.mpr c1)).trans (if_pos hk)
      rw [e1, e2, eK]
      refine out_l ⟨ns, h.n6, h.2.1, h.k3, h.m2, h.m1, h.m3, h.len, h.m5, h.m4, ?_, h.wd⟩
      unfold cPut
      rw [if_pos c3, if_pos c3, if_pos c3]
      exact h.gr.old h.ns0 hx c2
    · have hf : fnd S x ns = ns := by omega
      have hk : ¬ g (3 * mStr g x (ns - 1)) = x := fun z => c2 ((h.gr.has h.ns0 hx).mp z)
      by_cases c3 : ns = 12
      · have e1 : rLay x a b KF S ns = .inr xISE := (if_pos c1).trans (if_neg (by omega))
        have e2 : mLay x a b MF g ns = (0, upd MF 0 2, g) := (if_pos (and3.mpr c1)).trans ((if_neg hk).trans (if_pos c3))
        rw [e1, e2]
        exact out_r kc12b (h.th 2)
      · have c4 : fnd S x ns < 12 := by omega
        have eK : cPutK S ns x KF = upd KF 3 (nI (ns + 1)) := if_pos ⟨c4, hf⟩
        have e1 : rLay x a b KF S ns = .inl (nI (ns + 1)) := ((if_pos c1).trans (if_pos c4)).trans (by rw [eK, pk_us])
        have e2 : mLay x a b MF g ns = (nI (ns + 1), upd (upd MF 0 0) 5 (nI (ns + 1)), va_cpy (mSaid3 x a b) (va_cpy g g (3 * (mStr g x (ns - 1) + 1)) (3 * (mStr g x (ns - 1) + 1 + 1)) (3 * (ns - (mStr g x (ns - 1) + 1)))) 0 (3 * (mStr g x (ns - 1) + 1)) 3) := (if_pos (and3.mpr c1)).trans ((if_neg hk).trans (if_neg c3))
        rw [e1, e2, eK]
        refine out_l ⟨ns + 1, h.n6, ⟨by omega, by omega⟩, rfl, h.m2, h.m1, h.m3, h.len, rfl, h.m4, ?_, h.wd⟩
        unfold cPut
        rw [if_pos c4, if_pos c4, if_pos c4, hf]
        exact h.gr.new h.ns0 hx hf
  · have e1 : rLay x a b KF S ns = .inr xIAE := if_neg c1
    have e2 : mLay x a b MF g ns = (0, upd MF 0 1, g) := if_neg (fun z => c1 (and3.mp z))
    rw [e1, e2]
    exact out_r kc12a (h.th 1)
theorem q_ground0 (h : Rel n ns tk KF S U V T MF g tv) (x : Int32) : Out hc1 (rGround x S U ns) (mGround x 1 MF g ns).1 ((mGround x 1 MF g ns).2 0) (Rel n ns tk KF S U V T (mGround x 1 MF g ns).2 g tv) (Rel n ns tk KF S U V T (mGround x 1 MF g ns).2 g tv) := by
  by_cases c1 : isIn x (-100) 3000 = true
  · have e1 : rGround x S U ns = .inl (cGr S U ns x) := if_pos c1
    have e2 : mGround x 1 MF g ns = (mGS g ns x, upd MF 0 0) := if_pos c1
    rw [e1, e2, ((h.gr.rel h.ns0) x).1]
    exact out_l (h.th 0)
  · have e1 : rGround x S U ns = .inr xIAE := if_neg c1
    have e2 : mGround x 1 MF g ns = (0, upd MF 0 1) := if_neg c1
    rw [e1, e2]
    exact out_r rfl (h.th 1)
theorem q_ground1 (h : Rel n ns tk KF S U V T MF g tv) (x : Int32) : Out hc1 (rGround x S V ns) (mGround x 2 MF g ns).1 ((mGround x 2 MF g ns).2 0) (Rel n ns tk KF S U V T (mGround x 2 MF g ns).2 g tv) (Rel n ns tk KF S U V T (mGround x 2 MF g ns).2 g tv) := by
  by_cases c1 : isIn x (-100) 3000 = true
  · have e1 : rGround x S V ns = .inl (cGr S V ns x) := if_pos c1
    have e2 : mGround x 2 MF g ns = (mGF g ns x, upd MF 0 0) := if_pos c1
    rw [e1, e2, ((h.gr.rel h.ns0) x).2]
    exact out_l (h.th 0)
  · have e1 : rGround x S V ns = .inr xIAE := if_neg c1
    have e2 : mGround x 2 MF g ns = (0, upd MF 0 1) := if_neg c1
    rw [e1, e2]
    exact out_r rfl (h.th 1)
theorem q_add (h : Rel n ns tk KF S U V T MF g tv) (htk : tk < 1000000) (a b d : Int32) : Out hc12 (rAdd a b d n (nI tk)) (mAddC a b d MF n tv).1 ((mAddC a b d MF n tv).2.1 0) (n < 6 ∧ Rel (n + 1) ns tk KF S U V (setT T (n + 2) (cTeamNew (nI n) a b d.toNatClampNeg)) (mAddC a b d MF n tv).2.1 g (mAddC a b d MF n tv).2.2) (Rel n ns tk KF S U V T (mAddC a b d MF n tv).2.1 g (mAddC a b d MF n tv).2.2) := by
  have hn := h.n6
  by_cases c1 : isIn a 20 80 = true ∧ isIn b 10 99 = true ∧ isIn d 2 8 = true
  · have m1 := and3.mpr c1
    by_cases c2 : n < 6
    · have k2 : ¬ nI n < 0 ∧ nI n < nI 6 := ⟨nI_pos (by omega), (nI_ltI (by omega) (by decide)).mpr c2⟩
      by_cases c3 : nI tk = 0
      · have e1 : rAdd a b d n (nI tk) = .inl (nI n) := (if_pos c1).trans ((if_pos k2).trans (if_pos c3))
        have e2 : mAddC a b d MF n tv = (nI n, upd (upd MF 0 0) 2 (nI (n + 1)), setT tv n (mBegin d.toNatClampNeg (mNewRow a b d (tv n)))) := (if_pos m1).trans (if_neg (fun z => z.elim (by omega) (fun q => q (h.m1.trans c3))))
        rw [e1, e2]
        refine out_l ⟨c2, by omega, h.2.1, h.k3, rfl, h.m1, h.m3, h.len, h.m5, ?_, h.gr, fun t ht => ?_⟩
        · show MF 4 = cBroke (setT T (n + 2) (cTeamNew (nI n) a b d.toNatClampNeg)) n + (setT T (n + 2) (cTeamNew (nI n) a b d.toNatClampNeg) (n + 2)).1 14
          have e9 : cBroke (setT T (n + 2) (cTeamNew (nI n) a b d.toNatClampNeg)) n = cBroke T n := cBroke_cong (fun t ht => by rw [setT_ne _ (by omega)])
          rw [h.m4, setT_i, e9]
          show cBroke T n = cBroke T n + 0
          rw [Int32.add_zero]
        · show Tm (setT T (n + 2) (cTeamNew (nI n) a b d.toNatClampNeg) (t + 2)) (setT tv n (mBegin d.toNatClampNeg (mNewRow a b d (tv n))) t) ∧ (setT T (n + 2) (cTeamNew (nI n) a b d.toNatClampNeg) (t + 2)).1 0 = nI t
          by_cases e : t = n
          · subst e
            rw [setT_i, setT_i]
            exact ⟨new_tm c1.1 c1.2.1 c1.2.2, rfl⟩
          · rw [setT_ne _ (by omega), setT_ne _ e]
            exact h.wd t (by omega)
      · have e1 : rAdd a b d n (nI tk) = .inr xISE := (if_pos c1).trans ((if_pos k2).trans (if_neg c3))
        have e2 : mAddC a b d MF n tv = (0, upd MF 0 2, tv) := (if_pos m1).trans (if_pos (Or.inr (fun z => c3 (h.m1.symm.trans z))))
        rw [e1, e2]
        exact out_r kc12b (h.th 2)
    · have k2 : ¬ (¬ nI n < 0 ∧ nI n < nI 6) := fun z => c2 ((nI_ltI (by omega) (by decide)).mp z.2)
      have e1 : rAdd a b d n (nI tk) = .inr xISE := (if_pos c1).trans (if_neg k2)
      have e2 : mAddC a b d MF n tv = (0, upd MF 0 2, tv) := (if_pos m1).trans (if_pos (Or.inl (by omega)))
      rw [e1, e2]
      exact out_r kc12b (h.th 2)
  · have e1 : rAdd a b d n (nI tk) = .inr xIAE := if_neg c1
    have e2 : mAddC a b d MF n tv = (0, upd MF 0 1, tv) := if_neg (fun z => c1 (and3.mp z))
    rw [e1, e2]
    exact out_r kc12a (h.th 1)
/-- one team is told something else -/
theorem Wd.set (h : Wd n T tv) {i : Nat} {N M : TV} (hN : Tm N M) (h0 : N.1 0 = nI i) : Wd n (setT T (i + 2) N) (setT tv i M) := by
  intro t ht
  by_cases e : t = i
  · subst e; rw [setT_i, setT_i]; exact ⟨hN, h0⟩
  · rw [setT_ne _ (by omega), setT_ne _ e]; exact h t ht
theorem cBroke_set {i : Nat} {N : TV} (h : N.1 14 = (T (i + 2)).1 14) : cBroke (setT T (i + 2) N) n = cBroke T n := cBroke_cong (fun t ht => by
  by_cases e : t = i
  · subst e; rw [setT_i]; exact h
  · rw [setT_ne _ (by omega)])
theorem q_crew (h : Rel n ns tk KF S U V T MF g tv) (x a b d r : Int32) : Out hc123 (rCrew x a b d r n (nI tk) T) (mCrewC x a b d r MF tv).1 ((mCrewC x a b d r MF tv).2.1 0) (Rel n ns tk KF S U V (setT T (x.toNatClampNeg + 2) (upd (upd (upd (upd (upd (T (x.toNatClampNeg + 2)).1 4 a) 5 b) 6 d) 7 r) 12 r, (T (x.toNatClampNeg + 2)).2)) (mCrewC x a b d r MF tv).2.1 g (mCrewC x a b d r MF tv).2.2) (Rel n ns tk KF S U V T (mCrewC x a b d r MF tv).2.1 g (mCrewC x a b d r MF tv).2.2) := by
  have hn := h.n6
  by_cases c0 : isIn x 0 (nI n - 1) = true
  · obtain ⟨i, hi, rfl⟩ := isIn_nat (by omega) c0
    have m0 : isIn (nI i) 0 (MF 2 - 1) = true := by rw [h.m2]; exact c0
    have ec : (nI i).toNatClampNeg = i := nI_clamp (by omega)
    by_cases c1 : isIn a 1 9 = true ∧ isIn b 1 20 = true ∧ isIn d 1 3 = true ∧ isIn r 20 400 = true
    · have m1 := and4.mpr c1
      by_cases c3 : nI tk = 0
      · have e1 : rCrew (nI i) a b d r n (nI tk) T = .inl ((T ((nI i).toNatClampNeg + 2)).1 4) := (if_pos c0).trans ((if_pos c1).trans (if_pos c3))
        have e2 : mCrewC (nI i) a b d r MF tv = ((tv (nI i).toNatClampNeg).1 3, upd MF 0 0, setT tv (nI i).toNatClampNeg (mCrewRow a b d r (tv (nI i).toNatClampNeg))) := (if_pos m0).trans ((if_pos m1).trans (if_pos (h.m1.trans c3)))
        rw [e1, e2, ec, (h.wd.t hi).r.f.pul]
        refine out_l ⟨h.n6, h.2.1, h.k3, h.m2, h.m1, h.m3, h.len, h.m5, ?_, h.gr, h.wd.set (crew_tm (h.wd.t hi) c1.2.2.1) (h.wd i hi).2⟩
        exact h.m4.trans (cBroke_set (by rfl)).symm
      · have e1 : rCrew (nI i) a b d r n (nI tk) T = .inr xISE := (if_pos c0).trans ((if_pos c1).trans (if_neg c3))
        have e2 : mCrewC (nI i) a b d r MF tv = (0, upd MF 0 3, tv) := (if_pos m0).trans ((if_pos m1).trans (if_neg (fun z => c3 (h.m1.symm.trans z))))
        rw [e1, e2]
        exact out_r kc123c (h.th 3)
    · have e1 : rCrew (nI i) a b d r n (nI tk) T = .inr xIAE := (if_pos c0).trans (if_neg c1)
      have e2 : mCrewC (nI i) a b d r MF tv = (0, upd MF 0 2, tv) := (if_pos m0).trans (if_neg (fun z => c1 (and4.mp z)))
      rw [e1, e2]
      exact out_r kc123b (h.th 2)
  · have m0 : ¬ isIn x 0 (MF 2 - 1) = true := by rw [h.m2]; exact c0
    have e1 : rCrew x a b d r n (nI tk) T = .inr xIOB := if_neg c0
    have e2 : mCrewC x a b d r MF tv = (0, upd MF 0 1, tv) := if_neg m0
    rw [e1, e2]
    exact out_r kc123a (h.th 1)
theorem q_order (h : Rel n ns tk KF S U V T MF g tv) (x a b : Int32) : Out hcOA (rOrder x a b n T) (mOrder x a b MF tv).1 ((mOrder x a b MF tv).2.1 0) (Rel n ns tk KF S U V (setT T (x.toNatClampNeg + 2) (upd (upd (T (x.toNatClampNeg + 2)).1 8 a) 9 b, (T (x.toNatClampNeg + 2)).2)) (mOrder x a b MF tv).2.1 g (mOrder x a b MF tv).2.2) (Rel n ns tk KF S U V T (mOrder x a b MF tv).2.1 g (mOrder x a b MF tv).2.2) := by
  have hn := h.n6
  by_cases c0 : isIn x 0 (nI n - 1) = true
  · obtain ⟨i, hi, rfl⟩ := isIn_nat (by omega) c0
    have m0 : isIn (nI i) 0 (MF 2 - 1) = true := by rw [h.m2]; exact c0
    have ec : (nI i).toNatClampNeg = i := nI_clamp (by omega)
    by_cases c1 : isIn a 0 10 = true ∧ isIn b 1 40 = true
    · have e1 : rOrder (nI i) a b n T = .inl ((T ((nI i).toNatClampNeg + 2)).1 8) := (if_pos c0).trans (if_pos c1)
      have e2 : mOrder (nI i) a b MF tv = ((tv (nI i).toNatClampNeg).1 7, upd MF 0 0, setT tv (nI i).toNatClampNeg (upd (upd (tv (nI i).toNatClampNeg).1 7 a) 8 b, (tv (nI i).toNatClampNeg).2)) := (if_pos m0).trans (if_pos (and2.mpr c1))
      rw [e1, e2, ec, (h.wd.t hi).r.f.eff]
      refine out_l ⟨h.n6, h.2.1, h.k3, h.m2, h.m1, h.m3, h.len, h.m5, ?_, h.gr, h.wd.set (order_tm (h.wd.t hi) c1.2) (h.wd i hi).2⟩
      exact h.m4.trans (cBroke_set (by rfl)).symm
    · have e1 : rOrder (nI i) a b n T = .inr xIAE := (if_pos c0).trans (if_neg c1)
      have e2 : mOrder (nI i) a b MF tv = (0, upd MF 0 2, tv) := (if_pos m0).trans (if_neg (fun z => c1 (and2.mp z)))
      rw [e1, e2]
      exact out_r kcOAb (h.th 2)
  · have m0 : ¬ isIn x 0 (MF 2 - 1) = true := by rw [h.m2]; exact c0
    have e1 : rOrder x a b n T = .inr xIOB := if_neg c0
    have e2 : mOrder x a b MF tv = (0, upd MF 0 1, tv) := if_neg m0
    rw [e1, e2]
    exact out_r kcOAa (h.th 1)
end REL
