-- MORE OF WHAT THE CLASS'S METHODS DO
def updN (f : Nat → Nat) (k v : Nat) : Nat → Nat := fun j => if j = k then v else f j
theorem updN_eq (f : Nat → Nat) (k v : Nat) (j : Nat) : upd (nIf f) k (nI v) j = nIf (updN f k v) j := by
  by_cases e : j = k
  · subst e
    rw [pk_us, nIf, updN, if_pos rfl]
  · rw [pk_un e, nIf, nIf, updN, if_neg e]
theorem copied {f g : Nat → Int32} {i n : Nat} (h : ∀ j, j < i → f j = g j) (e : i = n) : ∀ j, j < n → f j = g j := by subst e; exact h
theorem maxF_eq (x y : Int32) : (maxF x y).toInt = max x.toInt y.toInt := by
  rw [maxF]; split <;> rename_i h <;> rw [Int32.lt_iff_toInt_lt] at h <;> omega
theorem minF_eq (x y : Int32) : (minF x y).toInt = min x.toInt y.toInt := by
  rw [minF]; split <;> rename_i h <;> rw [Int32.lt_iff_toInt_lt] at h <;> omega
theorem i600 : (600 : Int32).toInt = 600 := by decide
theorem im600 : (-600 : Int32).toInt = -600 := by decide
theorem clampF_eq (x : Int32) : (clampF x).toInt = max (-600) (min 600 x.toInt) := by rw [clampF, maxF_eq, minF_eq, i600, im600]
theorem clampF_id {x : Int32} (h1 : -600 ≤ x.toInt) (h2 : x.toInt ≤ 600) : clampF x = x := Int32.toInt_inj.mp (by rw [clampF_eq]; omega)
theorem clampF_lo (x : Int32) : -600 ≤ (clampF x).toInt := by rw [clampF_eq]; omega
theorem clampF_hi (x : Int32) : (clampF x).toInt ≤ 600 := by rw [clampF_eq]; omega
theorem clampF_cl (x : Int32) : clampF (clampF x) = clampF x := clampF_id (clampF_lo x) (clampF_hi x)
/-- the first n clocks lie between 600 and 600 below 0 -/
def Bd (n : Nat) (w : Nat → Int32) : Prop := ∀ j, j < n → clampF (w j) = w j
theorem Bd_upd {n : Nat} {w : Nat → Int32} (h : Bd n w) (b : Nat) (x : Int32) : Bd n (upd w b (clampF x)) := by
  intro j hj
  by_cases e : j = b
  · subst e
    rw [pk_us, clampF_cl]
  · rw [pk_un e]
    exact h j hj
theorem Bd_learn {k : Nat → Int32} {day : Int32} {n a b : Nat} {w : Nat → Int32} (h : Bd n w) : Bd n (learnF k day a b w) := by
  rw [learnF]
  split
  · exact h
  · exact Bd_upd h _ _
theorem learnF_ne {k : Nat → Int32} {day : Int32} {a b j : Nat} {w : Nat → Int32} (h : j ≠ b) : learnF k day a b w j = w j := by
  rw [learnF]
  split
  · rfl
  · exact pk_un h
theorem back1 {k : Nat → Int32} {day : Int32} {a b : Nat} {w : Nat → Int32} (h : clampF (w b) = w b) : ∀ j, j < 7 → upd (learnF k day a b w) b (clampF (w b)) j = w j := by
  intro j _
  by_cases e : j = b
  · subst e
    rw [pk_us, h]
  · rw [pk_un e, learnF_ne e]
theorem back0 {b : Nat} {w : Nat → Int32} (h : clampF (w b) = w b) : ∀ j, j < 7 → upd w b (clampF (w b)) j = w j := by
  intro j _
  by_cases e : j = b
  · subst e
    rw [pk_us, h]
  · rw [pk_un e]
def oneQ (k : Nat → Int32) (day : Int32) (n : Nat) (x : Int32) (w : Nat → Int32) (a b : Nat) : Option Int32 := if a = b then none else if wiF n x (learnF k day a b w) = 0 then none else some (nI (10 * a + b))
def oneP (k : Nat → Int32) (day : Int32) (n : Nat) (x : Int32) (w : Nat → Int32) (a : Nat) : Option Int32 := fst1 (oneQ k day n x w a) n
def oneF (k : Nat → Int32) (day : Int32) (n : Nat) (x : Int32) (w : Nat → Int32) : Int32 := (fst1 (oneP k day n x w) n).getD (-4)
def twoQ (k : Nat → Int32) (day : Int32) (n : Nat) (x : Int32) (w : Nat → Int32) (a b : Nat) (s : Int32 × Int32) : Int32 × Int32 := if a = b then s else if s.2 = -4 then (nI (10 * a + b), oneF k day n x (learnF k day a b w)) else s
def twoP (k : Nat → Int32) (day : Int32) (n : Nat) (x : Int32) (w : Nat → Int32) (a : Nat) (s : Int32 × Int32) : Int32 × Int32 := it (twoQ k day n x w a) n s
def twoF (k : Nat → Int32) (day : Int32) (n : Nat) (x : Int32) (w : Nat → Int32) (s : Int32 × Int32) : Int32 × Int32 := it (twoP k day n x w) n s
/-- lessons, first, second -/
def cureF (k : Nat → Int32) (day : Int32) (n : Nat) (x : Int32) (w : Nat → Int32) : Int32 × Int32 × Int32 :=
  if wiF n x w = 0 then
    if oneF k day n x w = -4 then
      (if (twoF k day n x w (-4, -4)).2 = -4 then -4 else 2, (twoF k day n x w (-4, -4)).1, (twoF k day n x w (-4, -4)).2)
    else (1, oneF k day n x w, -4)
  else (0, -4, -4)
def fitP (rc : Nat → Nat) (rm w : Nat → Int32) (i : Nat) : Option Int32 := if w (rc i) = rm i then none else some 0
def fitF (z : Nat) (rc : Nat → Nat) (rm w : Nat → Int32) : Int32 := (fst1 (fitP rc rm w) z).getD 1
def betterF (s os : Int32) : Bool := decide (s = -4) || decide (os < s)
