/-! WHAT THE CLASS'S TEAM AND TRACK DO, as functions: F the team's ints by their slots, P its rollers' places, L its runners' loads, G their ticks to go; n rollers, h runners -/
def cnt (q : Nat → Bool) : Nat → Nat
  | 0 => 0
  | i + 1 => cnt q i + if q i = true then 1 else 0
theorem cnt_le (q : Nat → Bool) : ∀ i, cnt q i ≤ i
  | 0 => Nat.le_refl 0
  | i + 1 => by have := cnt_le q i; unfold cnt; split <;> omega
def cE (F : Nat → Int32) : Bool := decide (¬ F 16 = -1)
def cPull (F : Nat → Int32) : Int32 := F 4 * F 5 * F 8 * (500 + F 11) / 5000
def cSide (F : Nat → Int32) (x : Int32) : Int32 := if x = -9999 then 3 else if x < F 10 - F 1 then 1 else if F 10 < x then 2 else 0
def cLie (F P : Nat → Int32) (n : Nat) (w : Int32) : Nat := cnt (fun k => decide (cSide F (P k) = w)) n
def cLB (F P : Nat → Int32) : Nat → Int32 × Int32
  | 0 => (-1, F 10 - F 1)
  | i + 1 => if cSide F (P i) = 1 ∧ P i < (cLB F P i).2 then (nI i, P i) else cLB F P i
/-- the ground: starts S, values U of i stretches, at x -/
def cGL (S U : Nat → Int32) (x : Int32) : Nat → Int32 × Int32
  | 0 => (-1, 0)
  | i + 1 => if ¬ x < S i ∧ (cGL S U x i).1 < S i then (S i, U i) else cGL S U x i
def cGr (S U : Nat → Int32) (ns : Nat) (x : Int32) : Int32 := (cGL S U (imax x 0) ns).2
def cBare (w gs gf : Int32) : Int32 := imax 0 (w * (20 + 10 * gs + 4 * gf) / 10)
def cDr (w gs gf u : Int32) : Int32 := imax (cBare w gs gf - imin u 4 * (w * (6 - gf / 2) / 10)) (w / 10)
def cDrag (F P : Nat → Int32) (n : Nat) (gs gf : Int32) : Int32 := if nI (cLie F P n 0) < 2 then 2 * cDr (F 2) gs gf (nI (cLie F P n 0)) else cDr (F 2) gs gf (nI (cLie F P n 0))
def cWay (F : Nat → Int32) (a b : Int32) : Int32 := if 0 < F 2 then imin 12 (imax 0 ((a - b) * 4 / F 2)) else 0
def cBr (b x : Int32) : Int32 := imin 1000 (imax 0 (b - x * x / 2 + 18))
def cRope (r : Int32) : Int32 := imax 10 (r - r / 10)
def cMoveP (F P : Nat → Int32) (i : Nat) : Nat → Int32 := fun k => if k < i ∧ cSide F (P k) = 0 then P k + F 15 / 2 else P k
/-- a runner, of those that are left: r -/
def cRun (F : Nat → Int32) (n r : Nat) (X : (Nat → Int32) × (Nat → Int32) × (Nat → Int32)) : (Nat → Int32) × (Nat → Int32) × (Nat → Int32) :=
  if X.2.1 r = -1 then
    if ¬ (cLB F X.1 n).1 < 0 ∧ (cLB F X.1 n).1 < 8 then (upd X.1 (cLB F X.1 n).1.toNatClampNeg (-9999), upd X.2.1 r (cLB F X.1 n).1, upd X.2.2 r ((F 10 + F 9 - X.1 (cLB F X.1 n).1.toNatClampNeg) / 12 + 2)) else X
  else if ¬ 0 < X.2.2 r - 1 ∧ ¬ X.2.1 r < 0 ∧ X.2.1 r < 8 then (upd X.1 (X.2.1 r).toNatClampNeg (F 10 + F 9), upd X.2.1 r (-1), upd X.2.2 r (X.2.2 r - 1)) else (X.1, X.2.1, upd X.2.2 r (X.2.2 r - 1))
def cSend (F : Nat → Int32) (n : Nat) (X : (Nat → Int32) × (Nat → Int32) × (Nat → Int32)) : Nat → (Nat → Int32) × (Nat → Int32) × (Nat → Int32)
  | 0 => X
  | r + 1 => cRun F n r (cSend F n X r)
def cAhead (F E : Nat → Int32) : Bool :=
  if ¬ cE F = cE E then cE F
  else if cE F = true ∧ ¬ F 16 = E 16 then decide (F 16 < E 16)
  else if cE F = false ∧ ¬ F 10 = E 10 then decide (E 10 < F 10)
  else decide (F 0 < E 0)
def cStartP (F : Nat → Int32) (P : Nat → Int32) (n i : Nat) : Nat → Int32 := fun k => if k < i then 0 - nI (k + 1) * F 1 / nI (n + 1) else P k
def cStartF (F : Nat → Int32) : Nat → Int32 := upd (upd (upd (upd (upd (upd (upd F 10 0) 11 1000) 12 (F 7)) 13 0) 14 0) 15 0) 16 (-1)
def cFill (f : Nat → Int32) (v : Int32) (i : Nat) : Nat → Int32 := fun k => if k < i then v else f k
theorem upd_cFill (f : Nat → Int32) (v : Int32) (i : Nat) : upd (cFill f v i) i v = cFill f v (i + 1) := by
  funext k
  simp only [upd, cFill]
  by_cases h : k = i
  · subst h; simp
  · rw [if_neg h]
    by_cases h2 : k < i
    · rw [if_pos h2, if_pos (by omega)]
    · rw [if_neg h2, if_neg (by omega)]
def cCopy (f g : Nat → Int32) (i : Nat) : Nat → Int32 := fun k => if k < i then f k else g k
theorem upd_cCopy (f g : Nat → Int32) (i : Nat) : upd (cCopy f g i) i (f i) = cCopy f g (i + 1) := by
  funext k
  simp only [upd, cCopy]
  by_cases h : k = i
  · subst h; simp
  · rw [if_neg h]
    by_cases h2 : k < i
    · rw [if_pos h2, if_pos (by omega)]
    · rw [if_neg h2, if_neg (by omega)]
/-- what team() tells, by its number -/
def cFact (F P : Nat → Int32) (n : Nat) (w : Int32) : Int32 :=
  if w = 0 then F 10 else if w = 1 then F 11 else if w = 2 then F 12 else if w = 3 then F 13 else if w = 4 then nI (cLie F P n 0) else if w = 5 then nI (cLie F P n 1) else if w = 6 then nI (cLie F P n 2) else if w = 7 then nI (cLie F P n 3) else if w = 8 then F 16 else if w = 9 then F 8 else if w = 10 then F 9 else F 15

theorem upd_cStartP (F P : Nat → Int32) (n i : Nat) : upd (cStartP F P n i) i (0 - nI (i + 1) * F 1 / nI (n + 1)) = cStartP F P n (i + 1) := by
  funext k
  simp only [upd, cStartP]
  by_cases h : k = i
  · subst h; simp
  · rw [if_neg h]
    by_cases h2 : k < i
    · rw [if_pos h2, if_pos (by omega)]
    · rw [if_neg h2, if_neg (by omega)]
theorem cMoveP_i (F P : Nat → Int32) (i : Nat) : cMoveP F P i i = P i := by simp [cMoveP]
theorem upd_cMoveP {F P : Nat → Int32} {i : Nat} (c : cSide F (P i) = 0) : upd (cMoveP F P i) i (P i + F 15 / 2) = cMoveP F P (i + 1) := by
  funext k
  simp only [upd, cMoveP]
  by_cases h : k = i
  · subst h; rw [if_pos rfl, if_pos ⟨by omega, c⟩]
  · rw [if_neg h]
    by_cases h2 : k < i ∧ cSide F (P k) = 0
    · rw [if_pos h2, if_pos ⟨by omega, h2.2⟩]
    · rw [if_neg h2, if_neg (fun q => h2 ⟨by omega, q.2⟩)]
theorem cMoveP_no {F P : Nat → Int32} {i : Nat} (c : ¬ cSide F (P i) = 0) : cMoveP F P i = cMoveP F P (i + 1) := by
  funext k
  simp only [cMoveP]
  by_cases h2 : k < i ∧ cSide F (P k) = 0
  · rw [if_pos h2, if_pos ⟨by omega, h2.2⟩]
  · rw [if_neg h2, if_neg (fun q => h2 ⟨by
      rcases Nat.lt_or_ge k i with z | z
      · exact z
      · have : k = i := by omega
        subst this
        exact absurd q.2 c, q.2⟩)]
def dgL (f : Nat → Int32) (d : Int64) : Nat → Int64
  | 0 => d
  | i + 1 => dgL f d i * 31 + Int32.toInt64 (f i)
def cAdd (F P : Nat → Int32) (n : Nat) (d : Int64) : Int64 := dgL P (dgL (fun i => cFact F P n (nI i)) d 12) n
/-- a tick of a team -/
abbrev TV : Type := (Nat → Int32) × (Nat → Int32) × (Nat → Int32) × (Nat → Int32)
def cSnapF (F : Nat → Int32) : Nat → Int32 := upd (upd (upd F 12 (cRope (F 12))) 13 15) 14 (F 14 + 1)
def cSnap (F : Nat → Int32) : Nat → Int32 := if F 13 = 0 ∧ F 12 < cPull F then cSnapF F else F
def cT3 (n : Nat) (S U V : Nat → Int32) (ns : Nat) (pull : Int32) (E P : Nat → Int32) : Nat → Int32 := upd E 15 (cWay E pull (cDrag E P n (cGr S U ns (E 10)) (cGr S V ns (E 10))))
def cT4 (F : Nat → Int32) : Nat → Int32 := upd F 10 (F 10 + F 15)
def cT5 (x : Int32) (F : Nat → Int32) : Nat → Int32 := upd F 11 (cBr (F 11) x)
def cT6 (len tk : Int32) (F : Nat → Int32) : Nat → Int32 := if F 10 < len then F else upd F 16 tk
def cKnot (E : Nat → Int32) : Nat → Int32 := cT5 0 (upd (upd E 13 (E 13 - 1)) 15 0)
def cTickA (n nh : Nat) (len tk : Int32) (Y P L G : Nat → Int32) : TV :=
  (cT6 len tk (cT5 (cT4 Y 8) (cT4 Y)), cSend (cT4 Y) n (cMoveP Y P n, L, G) nh)
def cTick (n nh : Nat) (S U V : Nat → Int32) (ns : Nat) (len tk : Int32) (T : TV) : TV :=
  if cE T.1 = true then T
  else if 0 < cSnap T.1 13 then (cKnot (cSnap T.1), T.2)
  else cTickA n nh len tk (cT3 n S U V ns (cPull T.1) (cSnap T.1) T.2.1) T.2.1 T.2.2.1 T.2.2.2
/-- the first place below i that holds x, or i -/
def fnd (S : Nat → Int32) (x : Int32) : Nat → Nat
  | 0 => 0
  | i + 1 => if fnd S x i < i then fnd S x i else if S i = x then i else i + 1
theorem fnd_le (S : Nat → Int32) (x : Int32) : ∀ i, fnd S x i ≤ i
  | 0 => Nat.le_refl 0
  | i + 1 => by have := fnd_le S x i; unfold fnd; split <;> (try split) <;> omega
theorem fnd_no (S : Nat → Int32) (x : Int32) : ∀ i k, k < fnd S x i → ¬ S k = x
  | 0, k, h => absurd h (Nat.not_lt_zero k)
  | i + 1, k, h => by
    have ih := fnd_no S x i
    have hl := fnd_le S x i
    unfold fnd at h
    split at h
    · exact ih k h
    · split at h
      · exact ih k (by omega)
      · rcases Nat.lt_or_ge k i with z | z
        · exact ih k (by omega)
        · have : k = i := by omega
          subst this
          assumption
theorem fnd_yes (S : Nat → Int32) (x : Int32) : ∀ i, fnd S x i < i → S (fnd S x i) = x
  | 0, h => absurd h (Nat.not_lt_zero _)
  | i + 1, h => by
    have ih := fnd_yes S x i
    unfold fnd at h ⊢
    split
    · exact ih (by assumption)
    · split
      · assumption
      · rename_i h1 h2
        rw [if_neg h1, if_neg h2] at h
        omega
theorem fnd_eq {S : Nat → Int32} {x : Int32} {n i : Nat} (h1 : i ≤ n) (h2 : ∀ j, j < i → ¬ S j = x) (h3 : i = n ∨ S i = x) : i = fnd S x n := by
  have a := fnd_le S x n
  have b := fnd_no S x n
  have c := fnd_yes S x n
  rcases Nat.lt_trichotomy i (fnd S x n) with z | z | z
  · rcases h3 with e | e
    · omega
    · exact absurd e (b i z)
  · exact z
  · exact absurd (c (by omega)) (h2 _ z)
def cPut (S : Nat → Int32) (ns : Nat) (x : Int32) (f : Nat → Int32) (v : Int32) : Nat → Int32 := if fnd S x ns < 12 then upd f (fnd S x ns) v else f
def cPutK (S : Nat → Int32) (ns : Nat) (x : Int32) (K : Nat → Int32) : Nat → Int32 := if fnd S x ns < 12 ∧ fnd S x ns = ns then upd K 3 (nI (ns + 1)) else K
theorem cMoveP_0 (F P : Nat → Int32) : cMoveP F P 0 = P := by funext k; simp [cMoveP]
theorem cStartP_0 (F P : Nat → Int32) (n : Nat) : cStartP F P n 0 = P := by funext k; simp [cStartP]
theorem cFill_0 (f : Nat → Int32) (v : Int32) : cFill f v 0 = f := by funext k; simp [cFill]
theorem cCopy_0 (f g : Nat → Int32) : cCopy f g 0 = g := by funext k; simp [cCopy]
/-- an int between 0 and 7 -/
theorem sp_ix {x : Int32} (h1 : ¬ x < 0) (h2 : x < 8) : ∃ j : Nat, j < 8 ∧ x = nI j := by
  rcases pk_ix x (n := 8) (by decide) with q | q | q
  · exact absurd q h1
  · exact absurd h2 (Int32.not_lt.mpr q)
  · exact q
def isIn (x a b : Int32) : Bool := decide (¬ x < a ∧ ¬ b < x)
