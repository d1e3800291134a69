/-! run, foresee, advise -/
theorem cTeams_each {f : TV → TV} (hf : ∀ X, cOK X → cOK (f X)) {T : Nat → TV} {n : Nat} (h : cTeams T n) : cTeams (eachT f T n) n := by
  intro t ht
  rw [eachT_get, if_pos (by omega)]
  exact hf _ (h t ht)
def cRunT (S U V : Nat → Int32) (ns : Nat) (len tick : Int32) (T : Nat → TV) (n : Nat) : Nat → Nat → TV
  | 0 => T
  | k + 1 => eachT (cTickN S U V ns len (tick + nI k + 1)) (cRunT S U V ns len tick T n k) n
theorem cRunT_ok {S U V : Nat → Int32} {ns : Nat} {len tick : Int32} {T : Nat → TV} {n : Nat} (h : cTeams T n) : ∀ k, cTeams (cRunT S U V ns len tick T n k) n
  | 0 => h
  | k + 1 => cTeams_each (fun X hX => cTickN_ok hX) (cRunT_ok h k)
def rRun (x : Int32) (S U V : Nat → Int32) (ns : Nat) (len tick : Int32) (T : Nat → TV) (n : Nat) : Int32 ⊕ String := if isIn x 1 500 = true then (if nI n = 0 then .inr xISE else .inl (nI (cEnded (cRunT S U V ns len tick T n x.toNatClampNeg) n))) else .inr xIAE
/-- the world's teams behind foresee -/
def cSee0 (x k : Int32) (S U V : Nat → Int32) (ns : Nat) (len tick : Int32) (T : Nat → TV) : Nat → TV := setT T 0 (cLook S U V ns len tick ((T (x.toNatClampNeg + 2)).1 8) (T (x.toNatClampNeg + 2)) k.toNatClampNeg)
def cSee (x k w : Int32) (S U V : Nat → Int32) (ns : Nat) (len tick : Int32) (T : Nat → TV) (n : Nat) : Nat → TV := if w = 1 then setT (cSee0 x k S U V ns len tick T) 1 (cRiv S U V ns len tick (cSee0 x k S U V ns len tick T) k.toNatClampNeg n) else cSee0 x k S U V ns len tick T
def rSee (x k w : Int32) (S U V : Nat → Int32) (ns : Nat) (len tick : Int32) (T : Nat → TV) (n : Nat) : Int32 ⊕ String := if isIn x 0 (nI n - 1) = true then (if isIn w 0 2 = true then (if isIn k 1 400 = true then .inl (if w = 0 then (cSee0 x k S U V ns len tick T 0).1 10 else if w = 1 then nI (cRivals S U V ns len tick (cSee0 x k S U V ns len tick T) (cSee0 x k S U V ns len tick T 0).1 k.toNatClampNeg n) else (cSee0 x k S U V ns len tick T 0).1 11) else .inr xIAE) else .inr xIOB) else .inr xIOB
theorem setT_teams {T : Nat → TV} {n b : Nat} {N : TV} (hb : b < 2) (h : cTeams T n) : cTeams (setT T b N) n := by
  intro t ht
  rw [setT_ne _ (by omega)]
  exact h t ht
/-- the trial's row behind e efforts, and the best effort with its place -/
def cAdvT (S U V : Nat → Int32) (ns : Nat) (len tick : Int32) (T : Nat → TV) (b k : Nat) : Nat → TV
  | 0 => T 0
  | e + 1 => cLook S U V ns len tick (nI e) (T b) k
def cAdv (S U V : Nat → Int32) (ns : Nat) (len tick : Int32) (T : Nat → TV) (b k : Nat) : Nat → Int32 × Int32
  | 0 => (0, -1)
  | e + 1 => if (cAdv S U V ns len tick T b k e).2 < (cLook S U V ns len tick (nI e) (T b) k).1 10 then (nI e, (cLook S U V ns len tick (nI e) (T b) k).1 10) else cAdv S U V ns len tick T b k e
def rAdv (x k : Int32) (S U V : Nat → Int32) (ns : Nat) (len tick : Int32) (T : Nat → TV) (n : Nat) : Int32 ⊕ String := if isIn x 0 (nI n - 1) = true then (if isIn k 1 200 = true then .inl (cAdv S U V ns len tick T (x.toNatClampNeg + 2) k.toNatClampNeg 11).1 else .inr xIAE) else .inr xIOB
