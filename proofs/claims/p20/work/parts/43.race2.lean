/-! The race's teams: functions of a team alone, and rows for a block -/
def cN (T : TV) : Nat := (T.1 3).toNatClampNeg
def cH (T : TV) : Nat := (T.1 6).toNatClampNeg
def cOK (T : TV) : Prop := (T.1 3 = nI (cN T) ∧ cN T ≤ 8) ∧ (T.1 6 = nI (cH T) ∧ cH T ≤ 3)
def cTeams (T : Nat → TV) (n : Nat) : Prop := ∀ t, t < n → cOK (T (t + 2))
def cStartN (T : TV) : TV := (cStartF T.1, cStartP T.1 T.2.1 (cN T) (cN T), cFill T.2.2.1 (-1) 3, cFill T.2.2.2 0 3)
def cTickN (S U V : Nat → Int32) (ns : Nat) (len tk : Int32) (T : TV) : TV := cTick (cN T) (cH T) S U V ns len tk T
def eachT (f : TV → TV) (T : Nat → TV) : Nat → Nat → TV
  | 0 => T
  | i + 1 => setT (eachT f T i) (i + 2) (f (eachT f T i (i + 2)))
theorem eachT_get (f : TV → TV) (T : Nat → TV) (b : Nat) : ∀ i, eachT f T i b = if 2 ≤ b ∧ b < i + 2 then f (T b) else T b
  | 0 => by rw [if_neg (by omega)]; rfl
  | i + 1 => by
    show setT (eachT f T i) (i + 2) (f (eachT f T i (i + 2))) b = _
    by_cases h : b = i + 2
    · subst h
      rw [setT_i, eachT_get f T (i + 2) i, if_neg (by omega), if_pos (by omega)]
    · rw [setT_ne _ h, eachT_get f T b i]
      by_cases q : 2 ≤ b ∧ b < i + 2
      · rw [if_pos q, if_pos (by omega)]
      · rw [if_neg q, if_neg (by omega)]
def cLook (S U V : Nat → Int32) (ns : Nat) (len tick e : Int32) (T : TV) : Nat → TV
  | 0 => (upd T.1 8 e, T.2)
  | k + 1 => cTickN S U V ns len (tick + nI (k + 1)) (cLook S U V ns len tick e T k)
def cRankOf (T : Nat → TV) (F : Nat → Int32) (n : Nat) : Nat := cnt (fun t => cAhead (T (t + 2)).1 F) n
def cEnded (T : Nat → TV) (n : Nat) : Nat := cnt (fun t => cE (T (t + 2)).1) n
def cBroke (T : Nat → TV) : Nat → Int32
  | 0 => 0
  | i + 1 => cBroke T i + (T (i + 2)).1 14
def cFronts (T : Nat → TV) : Nat → Int32
  | 0 => 0
  | i + 1 => cFronts T i + (T (i + 2)).1 10
def cAtRank (T : Nat → TV) (n : Nat) (k : Int32) : Int32 := if ft (fun t => decide (nI (cRankOf T (T (t + 2)).1 n) = k)) n < n then (T (ft (fun t => decide (nI (cRankOf T (T (t + 2)).1 n) = k)) n + 2)).1 0 else -1
def cCount (KF : Nat → Int32) (T : Nat → TV) (n : Nat) (tick : Int32) (w : Int32) : Int32 :=
  if w = 0 then tick else if w = 1 then nI n else if w = 2 then KF 4 else if w = 3 then KF 3 else if w = 4 then nI (cEnded T n) else cBroke T n
def cDig1 (KF : Nat → Int32) (T : Nat → TV) (n : Nat) (tick : Int32) : Nat → Int64
  | 0 => 461
  | w + 1 => cDig1 KF T n tick w * 31 + Int32.toInt64 (cCount KF T n tick (nI w))
def cDig2 (T : Nat → TV) (d : Int64) : Nat → Int64
  | 0 => d
  | t + 1 => cAdd (T (t + 2)).1 (T (t + 2)).2.1 (cN (T (t + 2))) (cDig2 T d t)
def cDig3 (T : Nat → TV) (n : Nat) (d : Int64) : Nat → Int64
  | 0 => d
  | k + 1 => cDig3 T n d k * 31 + Int32.toInt64 (cAtRank T n (nI k))
def cDigest (KF : Nat → Int32) (T : Nat → TV) (n : Nat) (tick : Int32) : Int64 := cDig3 T n (cDig2 T (cDig1 KF T n tick 6) n) n
/-- the rank of the trial among the rivals, each of which has raced as far -/
def cRivals (S U V : Nat → Int32) (ns : Nat) (len tick : Int32) (T : Nat → TV) (F : Nat → Int32) (k : Nat) : Nat → Nat := cnt (fun t => cAhead (cLook S U V ns len tick ((T (t + 2)).1 8) (T (t + 2)) k).1 F)
theorem upd_ne {f : Nat → Int32} {i j : Nat} {v : Int32} (h : ¬ j = i) : upd f i v j = f j := by simp [upd, h]
theorem cSnap_of {F : Nat → Int32} {j : Nat} (h : ¬ j = 12) (h1 : ¬ j = 13) (h2 : ¬ j = 14) : cSnap F j = F j := by
  unfold cSnap; split
  · unfold cSnapF; rw [upd_ne h2, upd_ne h1, upd_ne h]
  · rfl
theorem cTick_of {n nh : Nat} {S U V : Nat → Int32} {ns : Nat} {len tk : Int32} {T : TV} {j : Nat} (h : j < 10) : (cTick n nh S U V ns len tk T).1 j = T.1 j := by
  unfold cTick
  split
  · rfl
  · split
    · show cKnot (cSnap T.1) j = _
      unfold cKnot cT5
      rw [upd_ne (by omega), upd_ne (by omega), upd_ne (by omega), cSnap_of (by omega) (by omega) (by omega)]
    · unfold cTickA
      show cT6 _ _ _ j = _
      unfold cT6 cT5 cT4 cT3
      split
      · rw [upd_ne (by omega), upd_ne (by omega), upd_ne (by omega), cSnap_of (by omega) (by omega) (by omega)]
      · rw [upd_ne (by omega), upd_ne (by omega), upd_ne (by omega), upd_ne (by omega), cSnap_of (by omega) (by omega) (by omega)]
theorem cOK_of {T N : TV} (h3 : N.1 3 = T.1 3) (h6 : N.1 6 = T.1 6) (h : cOK T) : cOK N := by
  unfold cOK cN cH at *
  rw [h3, h6]; exact h
theorem cTickN_ok {S U V : Nat → Int32} {ns : Nat} {len tk : Int32} {T : TV} (h : cOK T) : cOK (cTickN S U V ns len tk T) := cOK_of (cTick_of (by decide)) (cTick_of (by decide)) h
theorem cLook_ok {S U V : Nat → Int32} {ns : Nat} {len tick e : Int32} {T : TV} (h : cOK T) : ∀ k, cOK (cLook S U V ns len tick e T k)
  | 0 => cOK_of (T := T) (N := (upd T.1 8 e, T.2)) (show upd T.1 8 e 3 = T.1 3 from upd_ne (by decide)) (show upd T.1 8 e 6 = T.1 6 from upd_ne (by decide)) h
  | k + 1 => cTickN_ok (cLook_ok h k)
abbrev blkN (cI : ClassId) (ad : Nat → Nat → Nat) (b : Nat) (N : TV) : va_W := [(ad b 0, oT N.1 (ad b 1) (ad b 2) (ad b 3)), (ad b 1, aI cI 8 N.2.1), (ad b 2, aI cI 3 N.2.2.1), (ad b 3, aI cI 3 N.2.2.2)]
theorem blk_repl2 (X : va_W) (cI : ClassId) (ad : Nat → Nat → Nat) (T : Nat → TV) (N : TV) {b m : Nat} (hb : b < m) : repl (X ++ blks cI ad T m) [X.length + 4 * b + 0, X.length + 4 * b + 1, X.length + 4 * b + 2, X.length + 4 * b + 3] (blkN cI ad b N) = X ++ blks cI ad (setT T b N) m := by
  rw [← blk_repl X cI ad T N hb]
  congr 1
  show _ = [_, _, _, _]
  rw [setT_i]
theorem blk_idx2 (X : va_W) (cI : ClassId) (ad : Nat → Nat → Nat) (T : Nat → TV) {b m : Nat} (hb : b < m) : [X.length + 4 * b + 0, X.length + 4 * b + 1, X.length + 4 * b + 2, X.length + 4 * b + 3].map (fun i => (X ++ blks cI ad T m)[i]?) = (blkN cI ad b (T b)).map some := blk_idx X cI ad T hb
theorem sp_nidx {A : Nat → Prop} {W w : va_W} (hD : va_D A W) (is : List Nat) (hn : is.Nodup) (hs : is.map (fun i => W[i]?) = w.map some) : (w.map Prod.fst).Nodup := by
  have key : ∀ (k : Nat) (x : Nat × va_E), w[k]? = some x → ∃ i, is[k]? = some i ∧ W[i]? = some x := by
    intro k x hk
    have h1 : (is.map (fun i => W[i]?))[k]? = some (some x) := by rw [hs, List.getElem?_map, hk]; rfl
    rw [List.getElem?_map] at h1
    cases hi : is[k]? with
    | none => rw [hi] at h1; cases h1
    | some i => rw [hi] at h1; exact ⟨i, rfl, Option.some.inj h1⟩
  refine List.pairwise_iff_getElem.mpr fun i j hi hj hij hbad => ?_
  rw [List.length_map] at hi hj
  rw [List.getElem_map, List.getElem_map] at hbad
  obtain ⟨x, h1, h2⟩ := key i _ (List.getElem?_eq_getElem hi)
  obtain ⟨y, h3, h4⟩ := key j _ (List.getElem?_eq_getElem hj)
  have e := hD.1 x y _ _ h2 h4 hbad
  subst e
  exact absurd ((List.getElem?_inj (List.getElem?_eq_some_iff.mp h1).1 hn).mp (h1.trans h3.symm)) (Nat.ne_of_lt hij)
/-- a block and cells of X are apart -/
theorem xb_nod {A : Nat → Prop} {X rc : va_W} {cI : ClassId} {ad : Nat → Nat → Nat} {T : Nat → TV} {b m : Nat} (hD : va_D A (X ++ blks cI ad T m)) (hb : b < m) (js : List Nat) (hn : js.Nodup) (hl : ∀ j ∈ js, j < X.length) (hs : js.map (fun i => X[i]?) = rc.map some) : ((blkN cI ad b (T b) ++ rc).map Prod.fst).Nodup := by
  refine sp_nidx hD ([X.length + 4 * b + 0, X.length + 4 * b + 1, X.length + 4 * b + 2, X.length + 4 * b + 3] ++ js) (List.nodup_append.mpr ⟨?_, hn, ?_⟩) ?_
  · simp only [List.nodup_cons, List.mem_cons, List.not_mem_nil, or_false, not_or, not_false_eq_true, List.nodup_nil, and_true]
    omega
  · intro a ha j hj e
    have := hl j hj
    simp only [List.mem_cons, List.not_mem_nil, or_false] at ha
    omega
  · rw [List.map_append, List.map_append, blk_idx2 X cI ad T hb]
    congr 1
    rw [← hs]
    refine List.map_congr_left fun j hj => ?_
    exact List.getElem?_append_left (hl j hj)
/-- two blocks are apart -/
theorem bb_nod {A : Nat → Prop} {X : va_W} {cI : ClassId} {ad : Nat → Nat → Nat} {T : Nat → TV} {b k m : Nat} (hD : va_D A (X ++ blks cI ad T m)) (hb : b < m) (hk : k < m) (hne : ¬ b = k) : ((blkN cI ad b (T b) ++ blkN cI ad k (T k)).map Prod.fst).Nodup := by
  refine sp_nidx hD ([X.length + 4 * b + 0, X.length + 4 * b + 1, X.length + 4 * b + 2, X.length + 4 * b + 3] ++ [X.length + 4 * k + 0, X.length + 4 * k + 1, X.length + 4 * k + 2, X.length + 4 * k + 3]) ?_ ?_
  · simp only [List.cons_append, List.nil_append, List.nodup_cons, List.mem_cons, List.not_mem_nil, or_false, not_or, not_false_eq_true, List.nodup_nil, and_true]
    omega
  · rw [List.map_append, List.map_append, blk_idx2 X cI ad T hb, blk_idx2 X cI ad T hk]
section SPB
variable {p : Program} {l : Launch} {e : Env} {R : Room} {s : State} {m : MethodId} {args : Array Value} {below : List Frame} {meth : Method} {c : Code} {H : Heap} {locs : List Loc} {cells slots : Nat} {Q : State → Prop}
variable {cc : ByteArray} {pc : Nat} {ls : Array Slot} {rest st0 : List Value} {D : va_G} {cI cT : ClassId} {A : Nat → Prop}
variable {y : MethodName} {bytes : ByteArray} {maxL nL n index : Nat} {ret : Option FieldType} {ws Ts : List Cond} {rm : Room} {own C : String} {As : List Value} {rc : va_W}
/-- a team's method is called that writes the team -/
theorem sp_bV {X : va_W} {ad : Nat → Nat → Nat} {T : Nat → TV} {N : TV} {k mb : Nat} (S : CallFix p m c cc nL s args Ts own) (hM : MetV l D cI cT y ws rm (.ref (ad k 0) :: As) (blkN cI ad k (T k)) rc (blkN cI ad k N)) (cw : CallW R s args own RX0 index y bytes maxL ret ws rm 0 0 n) (hK : KK D cI cT s)
    (hP : va_P D vwCl (X ++ blks cI ad T mb) H) (hD : va_D A (X ++ blks cI ad T mb)) (hS : va_S A s.heap H locs) (hb : k < mb) (hPr : va_P D vwCl rc H) (hN : ((blkN cI ad k (T k) ++ rc).map Prod.fst).Nodup)
    (hn : As.length = n) (hsize : ls.size = nL) (hst : st0 = As.reverse ++ .ref (ad k 0) :: rest) (hW : (rest.map fun v => v.category).sum ≤ 8)
    (hdg : decode cc pc = .ok (.invokevirtual index, 3)) (hf : cells ≤ R.cells ∧ slots ≤ R.slots)
    (kk : ∀ (H1 : Heap) (locs1 : List Loc), va_P D vwCl (X ++ blks cI ad (setT T k N) mb) H1 → va_D A (X ++ blks cI ad (setT T k N) mb) → va_S A s.heap H1 locs1 → W p l e R s m args below meth c H1 locs1 cells slots Q (F0 m (pc + 3) ls rest)) : W p l e R s m args below meth c H locs cells slots Q (F0 m pc ls st0) :=
  sp_vV (ci := 0) S hM cw hK hP hD hS _ (blk_idx2 X cI ad T hb) hPr hN rfl (blk_repl2 X cI ad T N hb) (xb_fst rfl cI ad _ _ mb) rfl rfl rfl hn hsize hst hW hdg hf kk
/-- a method is called that may write all the world -/
theorem sp_wV {W0 W1 : va_W} {b : Addr} (S : CallFix p m c cc nL s args Ts own) (hM : MetV l D cI cT y ws rm (.ref b :: As) W0 [] W1) (cw : CallW R s args own C index y bytes maxL ret ws rm 0 0 n) (hK : KK D cI cT s)
    (hP : va_P D vwCl W0 H) (hD : va_D A W0) (hS : va_S A s.heap H locs) (hm : W1.map Prod.fst = W0.map Prod.fst)
    {ci : Nat} {q : vw_C} {fs : List Value} (hc : vwCl[ci]? = some q) (he : W0[0]? = some (b, .inr (ci, fs))) (hcC : q.1 = C) (hn : As.length = n) (hsize : ls.size = nL) (hst : st0 = As.reverse ++ .ref b :: rest) (hW : (rest.map fun v => v.category).sum ≤ 8)
    (hdg : decode cc pc = .ok (.invokevirtual index, 3)) (hf : cells ≤ R.cells ∧ slots ≤ R.slots)
    (kk : ∀ (H1 : Heap) (locs1 : List Loc), va_P D vwCl W1 H1 → va_D A W1 → va_S A s.heap H1 locs1 → W p l e R s m args below meth c H1 locs1 cells slots Q (F0 m (pc + 3) ls rest)) : W p l e R s m args below meth c H locs cells slots Q (F0 m pc ls st0) := by
  subst hst hcC
  have hF : ∀ q, fr (W0.map Prod.fst) q → A q := fun q hq => by
    obtain ⟨x, hx, rfl⟩ := List.mem_map.mp hq
    obtain ⟨k, hk⟩ := List.getElem?_of_mem hx
    exact hD.2 k x hk
  refine va_callv (va_runV (rest := rest) S hM cw ⟨MuP.blind, va_recv hK.1 hP hc he, fun U hU hW => ⟨rfl, by rw [hU]; exact hP, fun k q h => by simp at h, hK.warm hW, sp_nod2 hD⟩⟩ rfl hn hsize rfl (lv_room hW) hdg hf) hS (fun q _ h => hF q h) hF (fun u t H1 locs1 ht hvm hw hB hz hk hS1 => ?_)
  rw [ht] at hB
  exact kk H1 locs1 hB (sp_Dsame hm hD) hS1
theorem sp_wI {v : Int32} {W0 W1 : va_W} {b : Addr} (S : CallFix p m c cc nL s args Ts own) (hM : MetI l D cI cT y ws rm (.ref b :: As) W0 [] W1 v) (cw : CallW R s args own C index y bytes maxL ret ws rm 0 0 n) (hK : KK D cI cT s)
    (hP : va_P D vwCl W0 H) (hD : va_D A W0) (hS : va_S A s.heap H locs) (hm : W1.map Prod.fst = W0.map Prod.fst)
    {ci : Nat} {q : vw_C} {fs : List Value} (hc : vwCl[ci]? = some q) (he : W0[0]? = some (b, .inr (ci, fs))) (hcC : q.1 = C) (hn : As.length = n) (hsize : ls.size = nL) (hst : st0 = As.reverse ++ .ref b :: rest) (hW : (rest.map fun v => v.category).sum ≤ 8)
    (hdg : decode cc pc = .ok (.invokevirtual index, 3)) (hf : cells ≤ R.cells ∧ slots ≤ R.slots)
    (kk : ∀ (H1 : Heap) (locs1 : List Loc), va_P D vwCl W1 H1 → va_D A W1 → va_S A s.heap H1 locs1 → W p l e R s m args below meth c H1 locs1 cells slots Q (F0 m (pc + 3) ls (.int v :: rest))) : W p l e R s m args below meth c H locs cells slots Q (F0 m pc ls st0) := by
  subst hst hcC
  have hF : ∀ q, fr (W0.map Prod.fst) q → A q := fun q hq => by
    obtain ⟨x, hx, rfl⟩ := List.mem_map.mp hq
    obtain ⟨k, hk⟩ := List.getElem?_of_mem hx
    exact hD.2 k x hk
  refine va_calli (va_runV (rest := rest) S hM cw ⟨MuP.blind, va_recv hK.1 hP hc he, fun U hU hW => ⟨rfl, by rw [hU]; exact hP, fun k q h => by simp at h, hK.warm hW, sp_nod2 hD⟩⟩ rfl hn hsize rfl (lv_room hW) hdg hf) hS (fun q _ h => hF q h) hF (fun z u t H1 locs1 ht hvm hw hB hz hk hS1 => ?_)
  rw [ht] at hB
  subst hw
  exact kk H1 locs1 hB (sp_Dsame hm hD) hS1
/-- a team out of the row of teams, or none -/
theorem sp_aald {wv : va_W} {a N nt : Nat} {ad : Nat → Nat → Nat} (hx : p.tables.exec = Jvm.exec) (hb : c.code = cc) (hK : KK D cI cT s) (hP : va_P D vwCl wv H) (q0 : Nat) (ha : wv[q0]? = some (a, aQ cT N (tq ad nt))) {i : Nat} (hi : i < N) (hN : N < 2147483648) (hdg : decode cc pc = .ok (.aaload, 1))
    (kt : i < nt → W p l e R s m args below meth c H locs cells slots Q (F0 m (pc + 1) ls (.ref (ad (i + 2) 0) :: rest))) (kf : nt ≤ i → W p l e R s m args below meth c H locs cells slots Q (F0 m (pc + 1) ls (.null :: rest))) : W p l e R s m args below meth c H locs cells slots Q (F0 m pc ls (.int (nI i) :: .ref a :: rest)) := by
  refine va_aldq hx hb hK.1 hP q0 1 ha rfl (vp_in_nI hi hN) hdg ?_
  rw [nI_clamp (Nat.lt_trans hi hN)]
  by_cases h : i < nt
  · rw [show tq ad nt i = some (ad (i + 2) 0) from if_pos h]; exact kt h
  · rw [show tq ad nt i = none from if_neg h]; exact kf (Nat.not_lt.mp h)
end SPB
theorem isIn_not {x a b : Int32} {q : Bool} (h : (!isIn x a b) = q) : isIn x a b = !q := by rw [← h]; simp
theorem ft_out {q : Nat → Bool} {n : Nat} (h : ∀ t, t < n → q t = false) : ft q n = n := by
  rcases Nat.lt_or_ge (ft q n) n with z | z
  · have := ft_yes q n z
    rw [h _ z] at this; cases this
  · have := ft_le q n; omega
theorem ft_is {q : Nat → Bool} {n i : Nat} (hi : i < n) (h : ∀ t, t < min i n → q t = false) (hq : q i = true) : ft q n = i := by
  have h1 := ft_lt hi hq
  have h2 := ft_yes q n h1
  rcases Nat.lt_trichotomy (ft q n) i with z | z | z
  · rw [h _ (by omega)] at h2; cases h2
  · exact z
  · have := ft_no q n i z
    rw [hq] at this; cases this
def cRiv (S U V : Nat → Int32) (ns : Nat) (len tick : Int32) (T : Nat → TV) (k : Nat) : Nat → TV
  | 0 => T 1
  | i + 1 => cLook S U V ns len tick ((T (i + 2)).1 8) (T (i + 2)) k
