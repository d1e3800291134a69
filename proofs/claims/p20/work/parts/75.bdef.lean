/-! p20: what the law builds -/
def bTeam (k len w nr pu st nh rope eff gap : Nat) : TV :=
  (upd (upd (upd (upd (upd (upd (upd (cStartF (cNewF (nI k) (nI len) (nI w) nr)) 4 (nI pu)) 5 (nI st)) 6 (nI nh)) 7 (nI rope)) 12 (nI rope)) 8 (nI eff)) 9 (nI gap), cStartP (cNewF (nI k) (nI len) (nI w) nr) (fun _ => 0) nr nr, cFill (fun _ => 0) (-1) 3, cFill (fun _ => 0) 0 3)
/-- a team of the law beside the race's -/
def LTs (cI : ClassId) (f : Nat → Option Nat) (LW : va_W) (T : Nat → TV) (i : Nat) : Prop := ∃ (ta q ra q2 ha q3 : Nat) (ca lf : Value) (F P G : Nat → Int32) (len w nr pu st nh rope eff gap : Nat), f i = some ta ∧ LW[q]? = some (ta, oYv F (.ref ra) ca (.ref ha) lf) ∧ LW[q2]? = some (ra, aI cI nr P) ∧ LW[q3]? = some (ha, aI cI nh G) ∧ F 0 = nI len ∧ F 1 = nI w ∧ T (i + 2) = bTeam i len w nr pu st nh rope eff gap ∧ (20 ≤ len ∧ len ≤ 80) ∧ (10 ≤ w ∧ w ≤ 99) ∧ (2 ≤ nr ∧ nr ≤ 8) ∧ (1 ≤ pu ∧ pu ≤ 9) ∧ (1 ≤ st ∧ st ≤ 20) ∧ (1 ≤ nh ∧ nh ≤ 3) ∧ (20 ≤ rope ∧ rope ≤ 400) ∧ eff ≤ 10 ∧ (1 ≤ gap ∧ gap ≤ 40)
theorem LTs.more {cI : ClassId} {f f' : Nat → Option Nat} {LW : va_W} {T T' : Nat → TV} {i : Nat} (x y z : Nat × va_E) (h : LTs cI f LW T i) (hf : f' i = f i) (hT : T' (i + 2) = T (i + 2)) : LTs cI f' (x :: y :: z :: LW) T' i := by
  obtain ⟨ta, q, ra, q2, ha, q3, ca, lf, F, P, G, len, w, nr, pu, st, nh, rope, eff, gap, h1, h2, h3, h4, h5, h6, h7, h8⟩ := h
  exact ⟨ta, q + 3, ra, q2 + 3, ha, q3 + 3, ca, lf, F, P, G, len, w, nr, pu, st, nh, rope, eff, gap, by rw [hf]; exact h1, h2, h3, h4, h5, h6, by rw [hT]; exact h7, h8⟩
def BuQ (cI cT cL : ClassId) (r tr k1 k2 k3 ts ra : Nat) (W' : va_W) : Prop := ∃ (tt n ns len : Nat) (g9 : Value) (f : Nat → Option Nat) (LW : va_W) (ad : Nat → Nat → Nat) (KF S U V : Nat → Int32) (T : Nat → TV), W' = ([(ra, oSv 0 (nI len) 0 g9 (.ref tt)), (tt, aQ cL n f)] ++ LW) ++ wRace cI cT r tr k1 k2 k3 ts ad n 0 KF S U V T ∧ (1 ≤ n ∧ n ≤ 4) ∧ (100 ≤ len ∧ len ≤ 799) ∧ KF 4 = nI len ∧ TrkI KF U V ns ∧ ∀ i, i < n → LTs cI f LW T i
def BuP (D : va_G) (cI cT cL cG cZ : ClassId) (av : List Value) (w : va_W) (b L : Nat) (xs : Nat → Int32) (sz : Nat) : Array Value → State → Prop := fun a U => MxP D cI cT av w sz a U ∧ KX D cI cT cL cG cZ U ∧ va_X b L xs U U.heap ∧ ¬ b ∈ w.map Prod.fst
theorem BuP.blind {D : va_G} {cI cT cL cG cZ : ClassId} {av : List Value} {w : va_W} {b L : Nat} {xs : Nat → Int32} {sz : Nat} : FrameBlind (BuP D cI cT cL cG cZ av w b L xs sz) := fun a U g mk h => ⟨MxP.blind a U g mk h.1, h.2.1.call, va_X.moved (u := U) (U := U.calling g mk _) (Vm.Alike.refl U.vm) h.2.2.1, h.2.2.2⟩
theorem in_nI {x a b : Nat} (ha : a ≤ x) (hb : x ≤ b) (hB : b < 1000000) : isIn (nI x) (nI a) (nI b) = true :=
  decide_eq_true ⟨nI_nlt ha (by omega), nI_nlt hb (by omega)⟩
theorem in_m5 {j : Nat} (h : j < 11) : (nI j - 5).toInt = (j : Int) - 5 := pk_sub_toInt (a := j) (b := 5) (by omega) (by decide)
theorem in_m5i {j : Nat} (h : j < 11) : isIn (nI j - 5) (-5) 5 = true := by
  have e := in_m5 h
  refine decide_eq_true ⟨fun z => ?_, fun z => ?_⟩
  · rw [Int32.lt_iff_toInt_lt, e, show (-5 : Int32).toInt = -5 from by decide] at z; omega
  · rw [Int32.lt_iff_toInt_lt, e, show (5 : Int32).toInt = 5 from by decide] at z; omega
theorem pl_drop {D : va_G} {cl : List vw_C} {B : Nat → Prop} {A G T : va_W} {H : Heap} (h : va_P D cl ((A ++ G) ++ T) H) (hD : va_D B ((A ++ G) ++ T)) : va_P D cl (A ++ T) H ∧ va_D B (A ++ T) := by
  refine ⟨va_P.app (xb_P (xb_P h)) (pl_suf h), va_D.app (pl_preD (pl_preD hD)) (pl_sufD hD) (fun i j x y hi hj e => ?_)⟩
  have hk := (List.getElem?_eq_some_iff.mp hi).1
  have hl : (A ++ G).length = A.length + G.length := List.length_append
  have := hD.1 i ((A ++ G).length + j) x y (by rw [List.getElem?_append_left (by omega), List.getElem?_append_left hk]; exact hi) (by rw [List.getElem?_append_right (by omega), show (A ++ G).length + j - (A ++ G).length = j by omega]; exact hj) e
  omega
theorem crew_res {a b d r k n : Nat} {T : Nat → TV} (hk : k < n) (hn : n ≤ 6) (ha : 1 ≤ a ∧ a ≤ 9) (hb : 1 ≤ b ∧ b ≤ 20) (hd : 1 ≤ d ∧ d ≤ 3) (hr : 20 ≤ r ∧ r ≤ 400) (h4 : (T (k + 2)).1 4 = 4) : rCrew (nI k) (nI a) (nI b) (nI d) (nI r) n 0 T = .inl 4 := by
  unfold rCrew
  rw [isIn_lt (by omega) hk, if_pos rfl, if_pos ⟨in_nI (a := 1) (b := 9) ha.1 ha.2 (by decide), in_nI (a := 1) (b := 20) hb.1 hb.2 (by decide), in_nI (a := 1) (b := 3) hd.1 hd.2 (by decide), in_nI (a := 20) (b := 400) hr.1 hr.2 (by decide)⟩, if_pos rfl, nI_clamp (by omega), h4]
theorem order_res {a b k n : Nat} {T : Nat → TV} (hk : k < n) (hn : n ≤ 6) (ha : a ≤ 10) (hb : 1 ≤ b ∧ b ≤ 40) (h8 : (T (k + 2)).1 8 = 5) : rOrder (nI k) (nI a) (nI b) n T = .inl 5 := by
  unfold rOrder
  rw [isIn_lt (by omega) hk, if_pos rfl, if_pos ⟨in_nI (a := 0) (b := 10) (Nat.zero_le _) ha (by decide), in_nI (a := 1) (b := 40) hb.1 hb.2 (by decide)⟩, nI_clamp (by omega), h8]
theorem add_res {a b d n : Nat} (hn : n < 6) (ha : 20 ≤ a ∧ a ≤ 80) (hb : 10 ≤ b ∧ b ≤ 99) (hd : 2 ≤ d ∧ d ≤ 8) : rAdd (nI a) (nI b) (nI d) n 0 = .inl (nI n) := by
  unfold rAdd
  rw [if_pos ⟨in_nI (a := 20) (b := 80) ha.1 ha.2 (by decide), in_nI (a := 10) (b := 99) hb.1 hb.2 (by decide), in_nI (a := 2) (b := 8) hd.1 hd.2 (by decide)⟩, if_pos ⟨nI_pos (by omega), nI_lt (by omega) (by decide)⟩, if_pos rfl]
theorem len_res {x : Nat} (h : 100 ≤ x ∧ x ≤ 2000) (KF : Nat → Int32) : rLen (nI x) KF 0 = .inl (KF 4) := by
  unfold rLen
  rw [if_pos (show isIn (nI x) 100 2000 = true from in_nI (a := 100) (b := 2000) h.1 h.2 (by decide)), if_pos rfl]
theorem lay_res {x ja jb ns : Nat} {KF S : Nat → Int32} (hx : x ≤ 1999) (ha : ja < 11) (hb : jb < 10) (hns : ns < 12) : rLay (nI x) (nI ja - 5) (nI jb) KF S ns = .inl (cPutK S ns (nI x) KF 3) := by
  have := fnd_le S (nI x) ns
  unfold rLay
  rw [if_pos ⟨in_nI (a := 0) (b := 1999) (Nat.zero_le _) hx (by decide), in_m5i ha, in_nI (a := 0) (b := 9) (Nat.zero_le _) (by omega) (by decide)⟩, if_pos (by omega)]
theorem team_3 {k len w nr pu st nh rope eff gap : Nat} {T T1 T2 T3 : Nat → TV}
    (h1 : T1 = setT T (k + 2) (cTeamNew (nI k) (nI len) (nI w) nr))
    (h2 : T2 = setT T1 (k + 2) (upd (upd (upd (upd (upd (T1 (k + 2)).1 4 (nI pu)) 5 (nI st)) 6 (nI nh)) 7 (nI rope)) 12 (nI rope), (T1 (k + 2)).2))
    (h3 : T3 = setT T2 (k + 2) (upd (upd (T2 (k + 2)).1 8 (nI eff)) 9 (nI gap), (T2 (k + 2)).2)) : T3 (k + 2) = bTeam k len w nr pu st nh rope eff gap ∧ ∀ i, i < k → T3 (i + 2) = T (i + 2) := by
  refine ⟨?_, fun i hi => ?_⟩
  · rw [h3, setT_i, h2, setT_i, h1, setT_i]; rfl
  · rw [h3, setT_ne _ (by omega), h2, setT_ne _ (by omega), h1, setT_ne _ (by omega)]
theorem team_48 {k len w nr pu st nh rope : Nat} {T T1 T2 : Nat → TV} (h1 : T1 = setT T (k + 2) (cTeamNew (nI k) (nI len) (nI w) nr))
    (h2 : T2 = setT T1 (k + 2) (upd (upd (upd (upd (upd (T1 (k + 2)).1 4 (nI pu)) 5 (nI st)) 6 (nI nh)) 7 (nI rope)) 12 (nI rope), (T1 (k + 2)).2)) : (T1 (k + 2)).1 4 = 4 ∧ (T2 (k + 2)).1 8 = 5 := by
  refine ⟨?_, ?_⟩
  · rw [h1, setT_i]; rfl
  · rw [h2, setT_i, h1, setT_i]; rfl
