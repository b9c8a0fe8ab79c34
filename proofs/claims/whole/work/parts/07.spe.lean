-- WHAT THE CLASS'S METHODS DO, as plain functions
/-- f applied for 0, 1, .., n - 1, in this order -/
def it {α : Type} (f : Nat → α → α) : Nat → α → α
  | 0, a => a
  | n + 1, a => f n (it f n a)
theorem it_0 {α : Type} (f : Nat → α → α) (a : α) : it f 0 a = a := rfl
theorem it_s {α : Type} (f : Nat → α → α) (n : Nat) (a : α) : it f (n + 1) a = f n (it f n a) := rfl
def remI (x y : Int32) : Int32 := x - x / y * y
theorem g_rem {V : gV} {Z : gZ} {own : String} {cc : ByteArray} {nL : Nat} {R : Room} {cs : Nat × Nat} {ws : va_W} {pc : Nat} {L : List (Option Value)} {st : List Value} (X : gX V Z own cc nL R) {x y : Int32} (d : decode cc pc = .ok (.irem, 1)) (hne : ¬ y = 0) (k : G V Z nL cs ws (pc + 1) L (.int (remI x y) :: st)) : G V Z nL cs ws pc L (.int y :: .int x :: st) := g_irem X d hne k
theorem toInt_ne {x y : Int32} {z : Int} (h : ¬ x = y) (hz : y.toInt = z) : ¬ x.toInt = z := fun e => h (Int32.toInt_inj.mp (e.trans hz.symm))
def atF (n : Nat) (f : Nat → Int32) (i : Int32) : Int32 := if i < 0 then 0 else if nI n ≤ i then 0 else f i.toNatClampNeg
def putF (n : Nat) (f : Nat → Int32) (i x : Int32) : Nat → Int32 := if i < 0 then f else if nI n ≤ i then f else upd f i.toNatClampNeg x
theorem vpin_of {i : Int32} {n : Nat} (h1 : ¬ i < 0) (h2 : ¬ nI n ≤ i) (hn : n < 2147483648) : vp_in i n := by
  obtain ⟨j, hj, rfl⟩ := nI_of h1
  exact vpin_nI (inle' h2 hn (by omega)) hn
theorem atF_nI {n i : Nat} {f : Nat → Int32} (h : i < n) (hn : n < 2147483648) : atF n f (nI i) = f i := by
  have h1 : ¬ nI i < 0 := flt (b := 0) (by omega) (by omega) (by omega)
  have h2 : ¬ nI n ≤ nI i := fle h hn (by omega)
  rw [atF, if_neg h1, if_neg h2, clampNeg_nI (by omega)]
theorem putF_nI {n i : Nat} {f : Nat → Int32} {x : Int32} (h : i < n) (hn : n < 2147483648) : putF n f (nI i) x = upd f i x := by
  have h1 : ¬ nI i < 0 := flt (b := 0) (by omega) (by omega) (by omega)
  have h2 : ¬ nI n ≤ nI i := fle h hn (by omega)
  rw [putF, if_neg h1, if_neg h2, clampNeg_nI (by omega)]
def clampF (x : Int32) : Int32 := maxF (-600) (minF 600 x)
def canF (kd day : Int32) : Int32 := if kd = 3 then 0 else if kd = 4 then (if remI day 7 = 6 then 1 else 0) else 1
def wwF (kd shown own : Int32) : Int32 := if kd = 1 then own + (shown - own) / 2 else if kd = 2 then minF 600 (shown + 1) else shown
def learnF (k : Nat → Int32) (day : Int32) (a b : Nat) (w : Nat → Int32) : Nat → Int32 := if canF (k b) day = 0 then w else upd w b (clampF (wwF (k b) (w a) (w b)))
def apartF (w : Nat → Int32) (a b : Nat) : Int32 := absF (w a - w b)
def oilF (g : Int32) : Int32 := if g = 0 then g else if 0 < g then g - 1 else g + 1
def nearF (a b : Nat) (w : Nat → Int32) : Nat → Int32 :=
  let p := apartF w a b
  let u := if w b < w a then a else b
  let v := if u = a then b else a
  let w1 := if 0 < p then upd w u (clampF (w u - 1)) else w
  if 1 < p then upd w1 v (clampF (w1 v + 1)) else w1
