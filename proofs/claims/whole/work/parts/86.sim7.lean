/-! The simulation: all runners -/
theorem send_rel {T M : TV} {n : Nat} (hn : n ≤ 8) (h : RelT T M n) (hb : Bd M.1 M.2.1 M.2.2.1 n) (hh : HoldD M.2.2.1 n) : ∀ r, r ≤ 3 →
    RelT (T.1, cSend T.1 n T.2 r) (mSend n M r) n ∧ Bd (mSend n M r).1 (mSend n M r).2.1 (mSend n M r).2.2.1 n ∧ HoldD (mSend n M r).2.2.1 n
  | 0, _ => ⟨⟨h.f, h.p, h.l, h.g⟩, hb, hh⟩
  | r + 1, hr => by
    obtain ⟨h1, h2, h3⟩ := send_rel hn h hb hh r (by omega)
    exact run_rel (T := (T.1, cSend T.1 n T.2 r)) hn (by omega) h1 h2 h3
theorem RelT.ints {T M : TV} {n : Nat} {F K : Nat → Int32} (h : RelT T M n) (hf : RelF F K) : RelT (F, T.2) (K, M.2) n := ⟨hf, h.p, h.l, h.g⟩
/-- the rope is knotted -/
theorem knot_rel {T M : TV} {n : Nat} (h : RelT T M n) : RelT (cKnot T.1, T.2) (mBreathe 0 (upd (upd M.1 12 (M.1 12 - 1)) 14 0, M.2)) n := by
  unfold cKnot mBreathe
  refine h.ints (RelF.breathe (F := upd (upd T.1 13 (T.1 13 - 1)) 15 0) (M := upd (upd M.1 12 (M.1 12 - 1)) 14 0) ?_ 0)
  rw [h.f.kno]
  exact ⟨h.f.len, h.f.wt, h.f.rol, h.f.pul, h.f.str, h.f.run, h.f.who, h.f.eff, h.f.gap, h.f.fro, h.f.bre, h.f.rop, rfl, rfl, h.f.fin⟩
