/-! The simulation: the ground: stretches as they were laid, beside stretches in the order of their places -/
def Grd (S U V : Nat → Int32) (ns : Nat) (g : Nat → Int32) : Prop :=
  g 0 = 0 ∧ (∀ i j, i < j → j < ns → g (3 * i) < g (3 * j)) ∧ (∀ i, i < ns → ∃ j, j < ns ∧ S i = g (3 * j) ∧ U i = g (3 * j + 1) ∧ V i = g (3 * j + 2)) ∧ (∀ j, j < ns → ∃ i, i < ns ∧ S i = g (3 * j)) ∧ ∀ i j, i < ns → j < ns → S i = S j → i = j
theorem i0_le {x : Int32} (h : ¬ x < 0) : (0 : Int32) ≤ x := Int32.not_lt.mp h
theorem Grd.nn {S U V g : Nat → Int32} {ns : Nat} (h : Grd S U V ns g) {j : Nat} (hj : j < ns) : ¬ g (3 * j) < 0 := fun z => by
  rcases Nat.eq_zero_or_pos j with q | q
  · subst q
    rw [show 3 * 0 = 0 from rfl, h.1] at z
    exact absurd z Int32.lt_irrefl
  · have h1 := h.2.1 0 j q hj
    rw [show 3 * 0 = 0 from rfl, h.1] at h1
    exact absurd (Int32.lt_trans h1 z) Int32.lt_irrefl
theorem Grd.sn {S U V g : Nat → Int32} {ns : Nat} (h : Grd S U V ns g) {i : Nat} (hi : i < ns) : ¬ S i < 0 := by
  obtain ⟨j, hj, e, _⟩ := h.2.2.1 i hi
  rw [e]; exact h.nn hj
theorem mStr_spec (g : Nat → Int32) (x : Int32) : ∀ k, (mStr g x k = 0 ∨ ¬ x < g (3 * mStr g x k)) ∧ ∀ i, mStr g x k < i → i ≤ k → x < g (3 * i)
  | 0 => ⟨Or.inl rfl, fun i h1 h2 => absurd h1 (by omega)⟩
  | k + 1 => by
    obtain ⟨h1, h2⟩ := mStr_spec g x k
    unfold mStr
    by_cases c : x < g (3 * (k + 1))
    · rw [if_pos c]
      refine ⟨h1, fun i h3 h4 => ?_⟩
      rcases Nat.lt_or_ge k i with z | z
      · have e : i = k + 1 := by omega
        rw [e]; exact c
      · exact h2 i h3 z
    · rw [if_neg c]
      exact ⟨Or.inr c, fun i h3 h4 => absurd h3 (by omega)⟩
theorem cGL_spec (S U : Nat → Int32) (x : Int32) : ∀ n, (∀ i, i < n → ¬ S i < 0) →
    ((cGL S U x n).1 = -1 ∧ ∀ i, i < n → x < S i) ∨ ∃ i, i < n ∧ cGL S U x n = (S i, U i) ∧ ¬ x < S i ∧ ∀ j, j < n → ¬ x < S j → S j ≤ S i
  | 0, _ => Or.inl ⟨rfl, fun i h => absurd h (Nat.not_lt_zero i)⟩
  | n + 1, hs => by
    have ih := cGL_spec S U x n (fun i hi => hs i (by omega))
    unfold cGL
    by_cases c : ¬ x < S n ∧ (cGL S U x n).1 < S n
    · rw [if_pos c]
      refine Or.inr ⟨n, Nat.lt_succ_self n, rfl, c.1, fun j hj hx => ?_⟩
      rcases Nat.lt_or_ge j n with z | z
      · rcases ih with q | ⟨i, q1, q2, q3, q4⟩
        · exact absurd (q.2 j z) hx
        · have e : (cGL S U x n).1 = S i := by rw [q2]
          have h1 := c.2
          rw [e] at h1
          exact Int32.le_trans (q4 j z hx) (Int32.le_of_lt h1)
      · have e : j = n := by omega
        rw [e]; exact Int32.le_refl _
    · rw [if_neg c]
      rcases ih with q | ⟨i, q1, q2, q3, q4⟩
      · refine Or.inl ⟨q.1, fun i hi => ?_⟩
        rcases Nat.lt_or_ge i n with z | z
        · exact q.2 i z
        · have e : i = n := by omega
          subst e
          refine Classical.byContradiction fun hx => c ⟨hx, ?_⟩
          rw [q.1]
          exact Int32.lt_of_lt_of_le (by decide) (i0_le (hs i hi))
      · refine Or.inr ⟨i, by omega, q2, q3, fun j hj hx => ?_⟩
        rcases Nat.lt_or_ge j n with z | z
        · exact q4 j z hx
        · have e : j = n := by omega
          subst e
          have e2 : (cGL S U x j).1 = S i := by rw [q2]
          exact Int32.not_lt.mp (fun z => c ⟨hx, by rw [e2]; exact z⟩)
/-- the stretch that lies at x, on the reference's side -/
theorem Grd.str {S U V g : Nat → Int32} {ns : Nat} (h : Grd S U V ns g) (hns : 0 < ns) (x : Int32) : mStr g x (ns - 1) < ns ∧ ¬ imax x 0 < g (3 * mStr g x (ns - 1)) ∧ ∀ i, mStr g x (ns - 1) < i → i < ns → imax x 0 < g (3 * i) := by
  obtain ⟨h1, h2⟩ := mStr_spec g x (ns - 1)
  have hle := mStr_le g x (ns - 1)
  refine ⟨by omega, ?_, fun i h3 h4 => ?_⟩
  · rcases h1 with q | q
    · rw [q, show 3 * 0 = 0 from rfl, h.1]
      unfold imax
      by_cases c : x < 0
      · rw [if_pos c]; exact Int32.lt_irrefl
      · rw [if_neg c]; exact c
    · unfold imax
      by_cases c : x < 0
      · exact absurd (Int32.lt_of_lt_of_le c (i0_le (h.nn (show mStr g x (ns - 1) < ns by omega)))) q
      · rw [if_neg c]; exact q
  · have h5 := h2 i h3 (by omega)
    unfold imax
    by_cases c : x < 0
    · rw [if_pos c]
      have h6 := h.2.1 0 i (by omega) h4
      rw [show 3 * 0 = 0 from rfl, h.1] at h6
      exact h6
    · rw [if_neg c]; exact h5
theorem Grd.gr {S U V g : Nat → Int32} {ns : Nat} (h : Grd S U V ns g) (hns : 0 < ns) {X : Nat → Int32} {k : Nat} (hX : ∀ i, i < ns → ∃ j, j < ns ∧ S i = g (3 * j) ∧ X i = g (3 * j + k)) (x : Int32) : cGr S X ns x = g (3 * mStr g x (ns - 1) + k) := by
  obtain ⟨hj, h1, h2⟩ := h.str hns x
  unfold cGr
  rcases cGL_spec S X (imax x 0) ns (fun i hi => h.sn hi) with q | ⟨i, q1, q2, q3, q4⟩
  · obtain ⟨i, hi, e⟩ := h.2.2.2.1 _ hj
    have := q.2 i hi
    rw [e] at this
    exact absurd this h1
  · rw [q2]
    show X i = _
    obtain ⟨j, hj2, e1, e2⟩ := hX i q1
    have hle : j ≤ mStr g x (ns - 1) := Nat.not_lt.mp (fun z => by
      have := h2 j z hj2
      rw [← e1] at this
      exact q3 this)
    obtain ⟨i2, hi2, e3⟩ := h.2.2.2.1 _ hj
    have h5 := q4 i2 hi2 (by rw [e3]; exact h1)
    rw [e3, e1] at h5
    have hge : mStr g x (ns - 1) ≤ j := Nat.not_lt.mp (fun z => absurd (h.2.1 _ _ z hj) (Int32.not_lt.mpr h5))
    rw [e2, show j = mStr g x (ns - 1) by omega]
theorem Grd.rel {S U V g : Nat → Int32} {ns : Nat} (h : Grd S U V ns g) (hns : 0 < ns) : RelG S U V ns g ns := fun x =>
  ⟨h.gr hns (k := 1) (fun i hi => (h.2.2.1 i hi).elim fun j hj => ⟨j, hj.1, hj.2.1, hj.2.2.1⟩) x, h.gr hns (k := 2) (fun i hi => (h.2.2.1 i hi).elim fun j hj => ⟨j, hj.1, hj.2.1, hj.2.2.2⟩) x⟩
/-- a stretch begins at x just if both find it -/
theorem Grd.has {S U V g : Nat → Int32} {ns : Nat} (h : Grd S U V ns g) (hns : 0 < ns) {x : Int32} (hx : ¬ x < 0) : g (3 * mStr g x (ns - 1)) = x ↔ fnd S x ns < ns := by
  obtain ⟨hj, h1, h2⟩ := h.str hns x
  have e0 : imax x 0 = x := by unfold imax; rw [if_neg hx]
  rw [e0] at h1 h2
  constructor
  · intro e
    obtain ⟨i, hi, e2⟩ := h.2.2.2.1 _ hj
    refine Nat.not_le.mp fun z => fnd_no S x ns i (by omega) (e2.trans e)
  · intro hf
    obtain ⟨j, hj2, e1, _⟩ := h.2.2.1 _ hf
    rw [fnd_yes S x ns hf] at e1
    have hle : j ≤ mStr g x (ns - 1) := Nat.not_lt.mp (fun z => by
      have := h2 j z hj2
      rw [← e1] at this
      exact absurd this Int32.lt_irrefl)
    rcases Nat.lt_or_ge j (mStr g x (ns - 1)) with z | z
    · have := h.2.1 _ _ z hj
      rw [← e1] at this
      exact absurd this h1
    · rw [show mStr g x (ns - 1) = j by omega]; exact e1.symm
theorem said3 (x a b : Int32) : mSaid3 x a b 0 = x ∧ mSaid3 x a b 1 = a ∧ mSaid3 x a b 2 = b := ⟨rfl, rfl, rfl⟩
/-- a stretch is laid in the place of another -/
theorem Grd.old {S U V g : Nat → Int32} {ns : Nat} (h : Grd S U V ns g) (hns : 0 < ns) {x a b : Int32} (hx : ¬ x < 0) (hf : fnd S x ns < ns) :
    Grd (upd S (fnd S x ns) x) (upd U (fnd S x ns) a) (upd V (fnd S x ns) b) ns (va_cpy (mSaid3 x a b) g 0 (3 * mStr g x (ns - 1)) 3) := by
  have hk := (h.has hns hx).mpr hf
  obtain ⟨hj, _, _⟩ := h.str hns x
  generalize mStr g x (ns - 1) = k at hk hj ⊢
  have hS := fnd_yes S x ns hf
  generalize fnd S x ns = f at hf hS ⊢
  have eS : upd S f x = S := by rw [← hS]; exact upd_self S f
  rw [eS]
  have g0 : ∀ j, va_cpy (mSaid3 x a b) g 0 (3 * k) 3 (3 * j) = g (3 * j) := fun j => by
    unfold va_cpy
    by_cases c : j = k
    · subst c
      rw [if_pos (by omega), show 0 + (3 * j - 3 * j) = 0 by omega, hk]; rfl
    · rw [if_neg (by omega)]
  have gc : ∀ j c, j ≠ k → c < 3 → va_cpy (mSaid3 x a b) g 0 (3 * k) 3 (3 * j + c) = g (3 * j + c) := fun j c hjk hc => by
    unfold va_cpy
    rw [if_neg (by omega)]
  have gk : ∀ c, c < 3 → va_cpy (mSaid3 x a b) g 0 (3 * k) 3 (3 * k + c) = mSaid3 x a b c := fun c hc => by
    unfold va_cpy
    rw [if_pos (by omega), show 0 + (3 * k + c - 3 * k) = c by omega]
  refine ⟨(g0 0).trans h.1, fun i j h1 h2 => ?_, fun i hi => ?_, fun j hj2 => ?_, h.2.2.2.2⟩
  · rw [g0, g0]; exact h.2.1 i j h1 h2
  · by_cases c : i = f
    · subst c
      refine ⟨k, hj, by rw [g0, hk, hS], ?_, ?_⟩
      · rw [gk 1 (by decide), pk_us]; rfl
      · rw [gk 2 (by decide), pk_us]; rfl
    · obtain ⟨j, h1, e1, e2, e3⟩ := h.2.2.1 i hi
      have hne : j ≠ k := fun z => c (h.2.2.2.2 i f hi hf (by rw [e1, z, hk, hS]))
      exact ⟨j, h1, by rw [g0]; exact e1, by rw [gc j 1 hne (by decide), pk_un c]; exact e2, by rw [gc j 2 hne (by decide), pk_un c]; exact e3⟩
  · obtain ⟨i, h1, e⟩ := h.2.2.2.1 j hj2
    exact ⟨i, h1, by rw [g0]; exact e⟩
/-- a stretch is laid where none began -/
theorem Grd.new {S U V g : Nat → Int32} {ns : Nat} (h : Grd S U V ns g) (hns : 0 < ns) {x a b : Int32} (hx : ¬ x < 0) (hf : fnd S x ns = ns) :
    Grd (upd S ns x) (upd U ns a) (upd V ns b) (ns + 1) (va_cpy (mSaid3 x a b) (va_cpy g g (3 * (mStr g x (ns - 1) + 1)) (3 * (mStr g x (ns - 1) + 1 + 1)) (3 * (ns - (mStr g x (ns - 1) + 1)))) 0 (3 * (mStr g x (ns - 1) + 1)) 3) := by
  have hk : ¬ g (3 * mStr g x (ns - 1)) = x := fun z => absurd ((h.has hns hx).mp z) (by omega)
  obtain ⟨hj, h1, h2⟩ := h.str hns x
  have e0 : imax x 0 = x := by unfold imax; rw [if_neg hx]
  rw [e0] at h1 h2
  generalize mStr g x (ns - 1) = k at hk hj h1 h2 ⊢
  have hno : ∀ i, i < ns → ¬ S i = x := fun i hi => fnd_no S x ns i (by omega)
  obtain ⟨G, hG⟩ : ∃ G, G = va_cpy (mSaid3 x a b) (va_cpy g g (3 * (k + 1)) (3 * (k + 1 + 1)) (3 * (ns - (k + 1)))) 0 (3 * (k + 1)) 3 := ⟨_, rfl⟩
  rw [← hG]
  have gl : ∀ j c, j ≤ k → c < 3 → G (3 * j + c) = g (3 * j + c) := fun j c hjk hc => by
    rw [hG]; unfold va_cpy
    rw [if_neg (by omega), if_neg (by omega)]
  have gp : ∀ c, c < 3 → G (3 * (k + 1) + c) = mSaid3 x a b c := fun c hc => by
    rw [hG]; unfold va_cpy
    rw [if_pos (by omega), show 0 + (3 * (k + 1) + c - 3 * (k + 1)) = c by omega]
  have gr : ∀ j c, k < j → j < ns → c < 3 → G (3 * (j + 1) + c) = g (3 * j + c) := fun j c hjk hj2 hc => by
    rw [hG]; unfold va_cpy
    rw [if_neg (by omega), if_pos (by omega), show 3 * (k + 1) + (3 * (j + 1) + c - 3 * (k + 1 + 1)) = 3 * j + c by omega]
  have gl0 : ∀ j, j ≤ k → G (3 * j) = g (3 * j) := fun j hjk => gl j 0 hjk (by decide)
  have gp0 : G (3 * (k + 1)) = x := gp 0 (by decide)
  have gr0 : ∀ j, k < j → j < ns → G (3 * (j + 1)) = g (3 * j) := fun j hjk hj2 => gr j 0 hjk hj2 (by decide)
  have hlt : g (3 * k) < x := Int32.lt_of_le_of_ne (Int32.not_lt.mp h1) hk
  have below : ∀ i, i ≤ k → g (3 * i) < x := fun i hi => by
    rcases Nat.lt_or_ge i k with z | z
    · exact Int32.lt_trans (h.2.1 i k z hj) hlt
    · rw [show i = k by omega]; exact hlt
  refine ⟨(gl0 0 (Nat.zero_le k)).trans h.1, fun i j h3 h4 => ?_, fun i hi => ?_, fun j hj2 => ?_, fun i j hi hj2 e => ?_⟩
  · rcases Nat.lt_trichotomy j (k + 1) with z | z | z
    · rw [gl0 i (by omega), gl0 j (by omega)]; exact h.2.1 i j h3 (by omega)
    · subst z
      rw [gl0 i (by omega), gp0]; exact below i (by omega)
    · obtain ⟨j2, rfl⟩ : ∃ j2, j = j2 + 1 := ⟨j - 1, by omega⟩
      rw [gr0 j2 (by omega) (by omega)]
      rcases Nat.lt_trichotomy i (k + 1) with y | y | y
      · rw [gl0 i (by omega)]; exact h.2.1 i j2 (by omega) (by omega)
      · subst y
        rw [gp0]; exact h2 j2 (by omega) (by omega)
      · obtain ⟨i2, rfl⟩ : ∃ i2, i = i2 + 1 := ⟨i - 1, by omega⟩
        rw [gr0 i2 (by omega) (by omega)]; exact h.2.1 i2 j2 (by omega) (by omega)
  · by_cases c : i = ns
    · subst c
      refine ⟨k + 1, by omega, by rw [gp0, pk_us], ?_, ?_⟩
      · rw [gp 1 (by decide), pk_us]; rfl
      · rw [gp 2 (by decide), pk_us]; rfl
    · obtain ⟨j, h3, e1, e2, e3⟩ := h.2.2.1 i (by omega)
      rw [pk_un c, pk_un c, pk_un c]
      rcases Nat.lt_or_ge k j with z | z
      · exact ⟨j + 1, by omega, by rw [gr0 j z h3]; exact e1, by rw [gr j 1 z h3 (by decide)]; exact e2, by rw [gr j 2 z h3 (by decide)]; exact e3⟩
      · exact ⟨j, by omega, by rw [gl0 j z]; exact e1, by rw [gl j 1 z (by decide)]; exact e2, by rw [gl j 2 z (by decide)]; exact e3⟩
  · rcases Nat.lt_trichotomy j (k + 1) with z | z | z
    · obtain ⟨i, h3, e⟩ := h.2.2.2.1 j (by omega)
      exact ⟨i, by omega, by rw [gl0 j (by omega), pk_un (by omega)]; exact e⟩
    · subst z
      exact ⟨ns, by omega, by rw [gp0, pk_us]⟩
    · obtain ⟨j2, rfl⟩ : ∃ j2, j = j2 + 1 := ⟨j - 1, by omega⟩
      obtain ⟨i, h3, e⟩ := h.2.2.2.1 j2 (by omega)
      exact ⟨i, by omega, by rw [gr0 j2 (by omega) (by omega), pk_un (by omega)]; exact e⟩
  · by_cases c : i = ns
    · by_cases d : j = ns
      · omega
      · rw [c, pk_us, pk_un d] at e
        exact absurd e.symm (hno j (by omega))
    · by_cases d : j = ns
      · rw [d, pk_us, pk_un c] at e
        exact absurd e (hno i (by omega))
      · rw [pk_un c, pk_un d] at e
        exact h.2.2.2.2 i j (by omega) (by omega) e
theorem Grd.init : Grd (fun _ => 0) (fun _ => 0) (upd (fun _ => 0) 0 2) 1 (upd (fun _ => 0) 2 2) :=
  ⟨rfl, fun i j h1 h2 => absurd h1 (by omega), fun i hi => ⟨0, by decide, rfl, rfl, by rw [show i = 0 by omega]; rfl⟩, fun j hj => ⟨0, by decide, by rw [show j = 0 by omega]; rfl⟩, fun i j h1 h2 _ => by omega⟩
