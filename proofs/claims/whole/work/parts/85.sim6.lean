/-! The simulation: one runner's step -/
theorem updL_rel {L K : Nat → Int32} {r : Nat} {v : Int32} (h : ∀ q, q < 3 → L q = K q) : ∀ q, q < 3 → upd L r v q = upd K r v q := fun q hq => by
  simp only [upd]; split
  · rfl
  · exact h q hq
theorem HoldD.take {L : Nat → Int32} {n r j : Nat} (h : HoldD L n) (hn : n ≤ 8) (hj : j < n) (hc : ¬ mCar L (nI j) = true) : HoldD (upd L r (nI j)) n := by
  refine ⟨fun q hq => ?_, fun p q hp hq hne h1 => ?_⟩
  · by_cases e : q = r
    · subst e; rw [pk_us]; exact Or.inr ⟨j, hj, rfl⟩
    · rw [pk_un e]; exact h.1 q hq
  · by_cases e : p = r
    · subst e
      rw [pk_us, pk_un (fun z => hne z.symm)]
      exact fun z => hc (mCar_yes hq z.symm)
    · rw [pk_un e] at h1 ⊢
      by_cases e2 : q = r
      · subst e2; rw [pk_us]
        exact fun z => hc (mCar_yes hp z)
      · rw [pk_un e2]; exact h.2 p q hp hq hne h1
theorem HoldD.lay {L : Nat → Int32} {n r : Nat} (h : HoldD L n) : HoldD (upd L r (-1)) n := by
  refine ⟨fun q hq => ?_, fun p q hp hq hne h1 => ?_⟩
  · by_cases e : q = r
    · subst e; rw [pk_us]; exact Or.inl rfl
    · rw [pk_un e]; exact h.1 q hq
  · by_cases e : p = r
    · subst e
      rw [pk_us] at h1
      exact absurd rfl h1
    · rw [pk_un e] at h1 ⊢
      by_cases e2 : q = r
      · subst e2; rw [pk_us]; exact h1
      · rw [pk_un e2]; exact h.2 p q hp hq hne h1
theorem run_rel {T M : TV} {n r : Nat} (hn : n ≤ 8) (hr : r < 3) (h : RelT T M n) (hb : Bd M.1 M.2.1 M.2.2.1 n) (hh : HoldD M.2.2.1 n) :
    RelT (T.1, cRun T.1 n r T.2) (mRun n r M) n ∧ Bd (mRun n r M).1 (mRun n r M).2.1 (mRun n r M).2.2.1 n ∧ HoldD (mRun n r M).2.2.1 n := by
  unfold cRun mRun
  rw [h.l r hr, h.g r hr]
  by_cases c : M.2.2.1 r = -1
  · rw [if_pos c, if_pos c, lb_eq hn h hb]
    have hm := mFd_spec (F := M.1) (P := M.2.1) (L := M.2.2.1) hn n (-1) (Nat.le_refl n) (Or.inl ⟨rfl, fun i h1 h2 => absurd h2 (by omega)⟩)
    rcases hm with ⟨e, _⟩ | ⟨j, e, _, h2, h3, _⟩
    · rw [e, if_neg (fun z => z.1 (by decide)), if_pos rfl]
      exact ⟨⟨h.f, h.p, h.l, h.g⟩, hb, hh⟩
    · have hc := not_car (by decide) h3
      rw [e, if_pos ⟨nI_pos (by omega), show nI j < nI 8 from (nI_ltI (by omega) (by omega)).mpr (by omega)⟩, if_neg (nI_ne_m1 (by omega)), nI_clamp (by omega), h.p j h2, if_neg hc, h.f.fro, h.f.gap]
      refine ⟨⟨h.f, take_p hn hr h2 c h.p, updL_rel h.l, updL_rel h.g⟩, ⟨hb.len, hb.gap, hb.fro, fun k hk hk2 => hb.pla k hk ?_⟩, hh.take hn h2 hc⟩
      cases h9 : mCar M.2.2.1 (nI k) with
      | false => rfl
      | true =>
        obtain ⟨q, q1, q2⟩ := mCar_iff.mp h9
        have e2 : ¬ q = r := fun z => by
          subst z
          rw [c] at q2
          exact absurd q2.symm (nI_ne_m1 (by omega))
        have h8 : mCar (upd M.2.2.1 r (nI j)) (nI k) = true := mCar_iff.mpr ⟨q, q1, by rw [pk_un e2]; exact q2⟩
        rw [h8] at hk2; cases hk2
  · rw [if_neg c, if_neg c]
    by_cases d : 0 < M.2.2.2 r - 1
    · rw [if_neg (fun z => z.1 d), if_pos d]
      exact ⟨⟨h.f, h.p, h.l, updL_rel h.g⟩, hb, hh⟩
    · rcases hh.1 r hr with e | ⟨j, hj, e⟩
      · exact absurd e c
      · rw [e, if_pos ⟨d, nI_pos (by omega), show nI j < nI 8 from (nI_ltI (by omega) (by omega)).mpr (by omega)⟩, if_neg d, nI_clamp (by omega), h.f.fro, h.f.gap]
        refine ⟨⟨h.f, lay_p hn hr hj e (fun q hq hne => hh.2 r q hr hq hne c) h.p, updL_rel h.l, updL_rel h.g⟩, ⟨hb.len, hb.gap, hb.fro, fun k hk hk2 => ?_⟩, hh.lay⟩
        show -80 ≤ (upd M.2.1 j (M.1 9 + M.1 8) k).toInt ∧ (upd M.2.1 j (M.1 9 + M.1 8) k).toInt ≤ 2060
        by_cases e2 : k = j
        · subst e2
          rw [pk_us, i_add ⟨by have := hb.fro; omega, by have := hb.fro; omega⟩ ⟨by have := hb.gap; omega, by have := hb.gap; omega⟩]
          have := hb.fro; have := hb.gap
          omega
        · rw [pk_un e2]
          refine hb.pla k hk ?_
          cases h9 : mCar M.2.2.1 (nI k) with
          | false => rfl
          | true =>
            obtain ⟨q, q1, q2⟩ := mCar_iff.mp h9
            have e3 : ¬ q = r := fun z => by
              subst z
              rw [e] at q2
              exact e2 (nI_inj' (by omega) (by omega) q2).symm
            have h8 : mCar (upd M.2.2.1 r (-1)) (nI k) = true := mCar_iff.mpr ⟨q, q1, by rw [pk_un e3]; exact q2⟩
            rw [h8] at hk2; cases hk2
