/-! addTeam: a new team behind the others -/
theorem blks_cong {cI : ClassId} {ad ad' : Nat → Nat → Nat} {T T' : Nat → TV} : ∀ {m : Nat}, (∀ b, b < m → ad b = ad' b ∧ T b = T' b) → blks cI ad T m = blks cI ad' T' m
  | 0, _ => rfl
  | m + 1, h => by
    show blks cI ad T m ++ blk cI ad T m = blks cI ad' T' m ++ blk cI ad' T' m
    rw [blks_cong (m := m) (fun b hb => h b (by omega))]
    obtain ⟨h1, h2⟩ := h m (by omega)
    unfold blk
    rw [h1, h2]
def adN (ad : Nat → Nat → Nat) (n : Nat) (u : List Nat) : Nat → Nat → Nat := fun b => if b = n + 2 then fun j => u.getD j 0 else ad b
theorem adN_i (ad : Nat → Nat → Nat) (n : Nat) (u : List Nat) : adN ad n u (n + 2) = fun j => u.getD j 0 := if_pos rfl
theorem adN_ne (ad : Nat → Nat → Nat) (n : Nat) (u : List Nat) {b : Nat} (h : ¬ b = n + 2) : adN ad n u b = ad b := if_neg h
theorem blks_new (X : va_W) (cI : ClassId) (ad : Nat → Nat → Nat) (T : Nat → TV) (n q a b c : Nat) (N : TV) : (X ++ blks cI ad T (n + 2)) ++ [(q, oT N.1 a b c), (a, aI cI 8 N.2.1), (b, aI cI 3 N.2.2.1), (c, aI cI 3 N.2.2.2)] = X ++ blks cI (adN ad n [q, a, b, c]) (setT T (n + 2) N) (n + 1 + 2) := by
  rw [List.append_assoc]
  congr 1
  show _ = blks cI _ _ (n + 2) ++ blk cI _ _ (n + 2)
  rw [blks_cong (m := n + 2) (ad := ad) (ad' := adN ad n [q, a, b, c]) (T := T) (T' := setT T (n + 2) N) (fun b hb => ⟨(adN_ne ad n _ (by omega)).symm, (setT_ne T (by omega) N).symm⟩)]
  congr 1
  unfold blk
  rw [adN_i, setT_i]
  rfl
theorem tq_new (ad : Nat → Nat → Nat) (n q a b c : Nat) : va_up (tq ad n) n (some q) = tq (adN ad n [q, a, b, c]) (n + 1) := by
  funext t
  unfold va_up tq
  by_cases h : t = n
  · subst h
    rw [if_pos rfl, if_pos (by omega), adN_i]; rfl
  · rw [if_neg h]
    by_cases h2 : t < n
    · rw [if_pos h2, if_pos (by omega), adN_ne ad n _ (by omega)]
    · rw [if_neg h2, if_neg (by omega)]
def cTeamNew (x y w : Int32) (n : Nat) : TV := (cStartF (cNewF x y w n), cStartP (cNewF x y w n) (fun _ => 0) n n, cFill (fun _ => 0) (-1) 3, cFill (fun _ => 0) 0 3)
def rAdd (a b d : Int32) (n : Nat) (tick : Int32) : Int32 ⊕ String := if isIn a 20 80 = true ∧ isIn b 10 99 = true ∧ isIn d 2 8 = true then (if ¬ nI n < 0 ∧ nI n < nI 6 then (if tick = 0 then .inl (nI n) else .inr xISE) else .inr xISE) else .inr xIAE
section SPE
variable {p : Program} {l : Launch} {e : Env} {R : Room} {s : State} {m : MethodId} {args : Array Value} {below : List Frame} {meth : Method} {c : Code} {H : Heap} {locs : List Loc} {cells slots : Nat} {Q : State → Prop}
variable {cc : ByteArray} {pc : Nat} {ls : Array Slot} {rest st0 : List Value} {D : va_G} {cI cT : ClassId} {A : Nat → Prop}
variable {y : MethodName} {bytes : ByteArray} {maxL nL n index : Nat} {ret : Option FieldType} {ws Ts : List Cond} {rm : Room} {own C : String} {b : Addr} {As : List Value} {W0 : va_W}
/-- a constructor is called on the last cell -/
theorem sp_iE {k mc ms : Nat} {w' : List Nat → va_W} {e0 : va_E} (S : CallFix p m c cc nL s args Ts own) (hM : MetVA l D cI cT y ws rm (.ref b :: As) [(b, e0)] [] w' k mc ms H.size) (cw : CallB R s args own index y bytes maxL none ws rm mc ms n ∧ y.name = "<init>" ∧ (Cond.instanceMethod y).before args s = true) (hK : KK D cI cT s)
    (hP : va_P D vwCl (W0 ++ [(b, e0)]) H) (hD : va_D A (W0 ++ [(b, e0)])) (hS : va_S A s.heap H locs) (hA : ∀ q, s.heap.size ≤ q → A q)
    (hn : As.length = n) (hsize : ls.size = nL) (hst : st0 = As.reverse ++ .ref b :: rest) (hW : (rest.map fun v => v.category).sum ≤ 8)
    (hdg : decode cc pc = .ok (.invokespecial index, 3)) (hf : cells + mc ≤ R.cells ∧ slots + ms ≤ R.slots)
    (kk : ∀ (u : List Nat) (H1 : Heap) (locs1 : List Loc), u.length = k → va_P D vwCl (W0 ++ w' u) H1 → va_D A (W0 ++ w' u) → va_S A s.heap H1 locs1 → W p l e R s m args below meth c H1 locs1 (cells + mc) (slots + ms) Q (F0 m (pc + 3) ls rest)) : W p l e R s m args below meth c H locs cells slots Q (F0 m pc ls st0) := by
  subst hst
  have hlast : (W0 ++ [(b, e0)])[W0.length]? = some (b, e0) := by rw [List.getElem?_append_right (Nat.le_refl _), Nat.sub_self]; rfl
  have hPc : va_P D vwCl [(b, e0)] H := fun k q hq => by
    cases k with
    | zero => cases hq; exact hP _ _ hlast
    | succ k => cases hq
  have hF : ∀ q, frA ([(b, e0)].map Prod.fst) H.size q → A q := fun q hq => by
    rcases hq with hq | hq
    · have e : q = b := by simpa using hq
      subst e
      exact hD.2 _ _ hlast
    · exact hA q (Nat.le_trans hS.1 hq)
  refine va_callv (va_runI (rest := rest) S hM cw ⟨MaP.blind, fun U hU hW => ⟨rfl, by rw [hU], by rw [hU]; exact hPc, fun k q h => by simp at h, hK.warm hW, by simp⟩⟩ rfl hn hsize rfl (lv_room hW) hdg hf) hS (fun q _ h => hF q h) hF (fun u t H1 locs1 ht hvm hw hB hz hk hS1 => ?_)
  rw [ht] at hB
  obtain ⟨hP2, hD2⟩ := hB
  have hne : ∀ (i : Nat) (x : Nat × va_E), W0[i]? = some x → ¬ frA ([(b, e0)].map Prod.fst) H.size x.1 := fun i x hx hq => by
    have hlt := (List.getElem?_eq_some_iff.mp hx).1
    have hx2 : (W0 ++ [(b, e0)])[i]? = some x := by rw [List.getElem?_append_left hlt]; exact hx
    rcases hq with hq | hq
    · have e : x.1 = b := by simpa using hq
      have := hD.1 i W0.length x (b, e0) hx2 hlast e
      omega
    · have := (hP i x hx2).lt
      omega
  refine kk u H1 locs1 hw (va_P.app ((xb_P hP).kept (fun i x hx => hk x.1 ((xb_P hP) i x hx).lt (hne i x hx))) hP2) (va_D.app ⟨fun i j x y hi hj => ?_, fun i x hx => ?_⟩ (hD2.weaken (fun _ _ _ z => hF _ z)) (fun i j x y hi hj z => hne i x hi (by rw [z]; exact hD2.2 j y hj))) hS1
  · exact hD.1 i j x y (by rw [List.getElem?_append_left (List.getElem?_eq_some_iff.mp hi).1]; exact hi) (by rw [List.getElem?_append_left (List.getElem?_eq_some_iff.mp hj).1]; exact hj)
  · exact hD.2 i x (by rw [List.getElem?_append_left (List.getElem?_eq_some_iff.mp hx).1]; exact hx)
/-- the new team is put into the row of teams -/
theorem sp_aast {wv : va_W} {a N nt q qk : Nat} {vs : List Value} {f : Nat → Option Nat} {H0 : Heap} (hx : p.tables.exec = Jvm.exec) (hb : c.code = cc) (hK : KK D cI cT s) (hP : va_P D vwCl wv H) (hD : va_D A wv) (hS : va_S A H0 H locs) (q0 : Nat) (ha : wv[q0]? = some (a, aQ cT N f)) (hv : wv[qk]? = some (q, .inr (0, vs))) (hi : nt < N) (hN : N < 2147483648) (hdg : decode cc pc = .ok (.aastore, 1))
    (kk : ∀ (H1 : Heap) (locs1 : List Loc), va_P D vwCl (wv.set q0 (a, aQ cT N (va_up f nt (some q)))) H1 → va_D A (wv.set q0 (a, aQ cT N (va_up f nt (some q)))) → va_S A H0 H1 locs1 → W p l e R s m args below meth c H1 locs1 cells slots Q (F0 m (pc + 1) ls rest)) : W p l e R s m args below meth c H locs cells slots Q (F0 m pc ls (.ref q :: .int (nI nt) :: .ref a :: rest)) := by
  refine va_astq hx hb hK.1 hP hD hS q0 1 qk 0 ha rfl hv rfl (vp_in_nI hi hN) hdg ?_
  rw [nI_clamp (Nat.lt_trans hi hN)]
  exact kk
end SPE
