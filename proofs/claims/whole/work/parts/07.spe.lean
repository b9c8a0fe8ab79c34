-- WHAT THE CLASS'S METHODS DO, as plain functions
/-- f applied for 0, 1, .., n - 1, in this order -/
def it {α : Type} (f : Nat → α → α) : Nat → α → α
  | 0, a => a
  | n + 1, a => f n (it f n a)
theorem it_0 {α : Type} (f : Nat → α → α) (a : α) : it f 0 a = a := rfl
theorem it_s {α : Type} (f : Nat → α → α) (n : Nat) (a : α) : it f (n + 1) a = f n (it f n a) := rfl
def remI (x y : Int32) : Int32 := x - x / y * y
theorem g_rem {V : gV} {Z : gZ} {own : String} {cc : ByteArray} {nL : Nat} {R : Room} {cs : Nat × Nat} {ws : va_W} {pc : Nat} {L : List (Option Value)} {st : List Value} (X : gX V Z own cc nL R) {x y : Int32} (d : decode cc pc = .ok (.irem, 1)) (hne : ¬ y = 0) (k : G V Z nL cs ws (pc + 1) L (.int (remI x y) :: st)) : G V Z nL cs ws pc L (.int y :: .int x :: st) := g_irem X d hne k
theorem toInt_ne {x y : Int32} {z : Int} (h : ¬ x = y) (hz : y.toInt = z) : ¬ z = x.toInt := fun e => h (Int32.toInt_inj.mp (e.symm.trans hz.symm))
def atF (n : Nat) (f : Nat → Int32) (i : Int32) : Int32 := if i < 0 then 0 else if nI n ≤ i then 0 else f i.toNatClampNeg
def putF (n : Nat) (f : Nat → Int32) (i x : Int32) : Nat → Int32 := if i < 0 then f else if nI n ≤ i then f else upd f i.toNatClampNeg x
theorem vpin_of {i : Int32} {n : Nat} (h1 : ¬ i < 0) (h2 : ¬ nI n ≤ i) (hn : n < 2147483648) : vp_in i n := by
  obtain ⟨j, hj, rfl⟩ := nI_of h1
  exact vpin_nI (inle' h2 hn (by omega)) hn
theorem atF_nI {n i : Nat} {f : Nat → Int32} (h : i < n) (hn : n < 2147483648) : atF n f (nI i) = f i := by
  have h1 : ¬ nI i < 0 := flt (b := 0) (by omega) (by omega) (by omega)
  have h2 : ¬ nI n ≤ nI i := fle h hn (by omega)
  rw [atF, if_neg h1, if_neg h2, clampNeg_nI (by omega)]
theorem putF_nI {n i : Nat} {f : Nat → Int32} {x : Int32} (h : i < n) (hn : n < 2147483648) : putF n f (nI i) x = upd f i x := by
  have h1 : ¬ nI i < 0 := flt (b := 0) (by omega) (by omega) (by omega)
  have h2 : ¬ nI n ≤ nI i := fle h hn (by omega)
  rw [putF, if_neg h1, if_neg h2, clampNeg_nI (by omega)]
def clampF (x : Int32) : Int32 := maxF (-600) (minF 600 x)
def canF (kd day : Int32) : Int32 := if kd = 3 then 0 else if kd = 4 then (if remI day 7 = 6 then 1 else 0) else 1
def wwF (kd shown own : Int32) : Int32 := if kd = 1 then own + (shown - own) / 2 else if kd = 2 then minF 600 (shown + 1) else shown
def learnF (k : Nat → Int32) (day : Int32) (a b : Nat) (w : Nat → Int32) : Nat → Int32 := if canF (k b) day = 0 then w else upd w b (clampF (wwF (k b) (w a) (w b)))
def apartF (w : Nat → Int32) (a b : Nat) : Int32 := absF (w a - w b)
def oilF (g : Int32) : Int32 := if g = 0 then g else if 0 < g then g - 1 else g + 1
def nearF (a b : Nat) (w : Nat → Int32) : Nat → Int32 :=
  let p := apartF w a b
  let u := if w b < w a then a else b
  let v := if w b < w a then b else a
  let w1 := if 0 < p then upd w u (clampF (w u - 1)) else w
  if 1 < p then upd w1 v (clampF (w1 v + 1)) else w1
def nIf (f : Nat → Nat) : Nat → Int32 := fun j => nI (f j)
def shf (e : Nat → Nat) : Nat → Option Nat := fun j => some (e j)
/-- as it, from lo on -/
def itg {α : Type} (lo : Nat) (f : Nat → α → α) (n : Nat) (a : α) : α := it (fun j s => if j < lo then s else f j s) n a
theorem itg_0 {α : Type} {lo : Nat} (f : Nat → α → α) (a : α) : ∀ {n : Nat}, n ≤ lo → itg lo f n a = a
  | 0, _ => rfl
  | n + 1, h => by
    show (if n < lo then itg lo f n a else f n (itg lo f n a)) = a
    rw [if_pos (by omega)]
    exact itg_0 f a (by omega)
theorem itg_s {α : Type} {lo n : Nat} (f : Nat → α → α) (a : α) (h : lo ≤ n) : itg lo f (n + 1) a = f n (itg lo f n a) := by
  show (if n < lo then itg lo f n a else f n (itg lo f n a)) = _
  rw [if_neg (by omega)]
/-- the first answer among 0, 1, .., n - 1 -/
def fst1 {α : Type} (f : Nat → Option α) (n : Nat) : Option α := it (fun j o => match o with | some r => some r | none => f j) n none
theorem fst1_s {α : Type} {f : Nat → Option α} {i : Nat} (h : fst1 f i = none) : fst1 f (i + 1) = f i := by
  show (match fst1 f i with | some r => some r | none => f i) = f i
  rw [h]
theorem fst1_n {α : Type} {f : Nat → Option α} {i : Nat} (h : fst1 f i = none) (hf : f i = none) : fst1 f (i + 1) = none := by rw [fst1_s h, hf]
theorem fst1_st {α : Type} {f : Nat → Option α} {r : α} : ∀ {k i : Nat}, fst1 f i = some r → fst1 f (i + k) = some r
  | 0, _, h => h
  | k + 1, i, h => by
    show (match fst1 f (i + k) with | some r => some r | none => f (i + k)) = some r
    rw [fst1_st (k := k) h]
theorem fst1_at {α : Type} {f : Nat → Option α} {i n : Nat} {r : α} (h : fst1 f i = none) (hf : f i = some r) (hi : i < n) : fst1 f n = some r := by
  obtain ⟨k, rfl⟩ : ∃ k, n = (i + 1) + k := ⟨n - (i + 1), by omega⟩
  exact fst1_st (by rw [fst1_s h, hf])
def cnt (p : Nat → Bool) (n : Nat) : Nat := it (fun j s => if p j = true then s + 1 else s) n 0
theorem cnt_s (p : Nat → Bool) (n : Nat) : cnt p (n + 1) = if p n = true then cnt p n + 1 else cnt p n := rfl
theorem cnt_le (p : Nat → Bool) : ∀ n, cnt p n ≤ n
  | 0 => Nat.le_refl _
  | n + 1 => by
    rw [cnt_s]
    have := cnt_le p n
    split <;> omega
theorem upd_pre {f g : Nat → Int32} {i : Nat} (h : ∀ j, j < i → f j = g j) : ∀ j, j < i + 1 → upd f i (g i) j = g j := by
  intro j hj
  by_cases e : j = i
  · subst e
    exact pk_us
  · rw [pk_un e]
    exact h j (by omega)
section GQ
variable {V : gV} {Z : gZ} {own : String} {cc : ByteArray} {nL : Nat} {R : Room} {cs : Nat × Nat} {ws : va_W} {pc : Nat} {L : List (Option Value)} {st : List Value}
theorem g_aald' (X : gX V Z own cc nL R) (q0 : Nat) {a n : Nat} {f : Nat → Option Nat} {x : Int32} {i : Nat} (v : Value) (he : ws[q0]? = some (a, .inl (V.2.2.2, n, .inr (.inr (.inr (.inr f)))))) (hx : x = nI i) (hi : i < n) (hn : n < 2147483648) (hv : va_rf (f i) = v) (d : decode cc pc = .ok (.aaload, 1)) (k : G V Z nL cs ws (pc + 1) L (v :: st)) : G V Z nL cs ws pc L (.int x :: .ref a :: st) := by
  subst hx
  exact g_aald X q0 v he (vpin_nI hi hn) (by rw [clampNeg_nI (by omega)]; exact hv) d k
end GQ
def hasF (bits : Int32) (b : Nat) : Int32 := if (bits >>> (nI b &&& 31)) &&& 1 = 1 then 1 else 0
def toldF (k : Nat → Int32) (ld te pu : Nat → Nat) (m : Nat) (day : Int32) (w : Nat → Int32) : Nat → Int32 := it (fun i w => if nI (ld i) = remI day 14 then learnF k day (te i) (pu i) w else w) m w
def hearG (wb : Nat → Int32) (n q : Nat) (w : Nat → Int32) : Nat → Int32 := it (fun a w => itg (a + 1) (fun b w => if hasF (wb a) b = 0 then w else nearF a b w) n w) q w
def hearF (wb : Nat → Int32) (n : Nat) (w : Nat → Int32) : Nat → Int32 := hearG wb n n w
def gainF (g : Nat → Int32) (n : Nat) (w : Nat → Int32) : Nat → Int32 := it (fun c w => upd w c (clampF (w c + g c))) n w
def dayF (k wb : Nat → Int32) (ld te pu : Nat → Nat) (n m : Nat) (g : Nat → Int32) (carry day : Int32) (w : Nat → Int32) : Nat → Int32 :=
  gainF g n (if carry = 0 then toldF k ld te pu m day w else hearF wb n (toldF k ld te pu m day w))
def daysF (k wb : Nat → Int32) (ld te pu : Nat → Nat) (n m : Nat) (g : Nat → Int32) (day : Int32) (q : Nat) (w : Nat → Int32) : Nat → Int32 :=
  it (fun i w => dayF k wb ld te pu n m g 1 (day + nI i) w) q w
def seeF (k : Nat → Int32) (n : Nat) (x : Int32) (w : Nat → Int32) : Nat → Int32 := it (fun c w => if k c = 3 then w else upd w c (clampF x)) n w
def midP (n : Nat) (w : Nat → Int32) (c : Nat) : Option Int32 := if cnt (fun j => decide (w j < w c)) n ≤ (n - 1) / 2 ∧ (n - 1) / 2 < cnt (fun j => decide (w j < w c)) n + cnt (fun j => decide (w j = w c)) n then some (w c) else none
def midF (n : Nat) (w : Nat → Int32) : Int32 := (fst1 (midP n w) n).getD 0
def rightF (n : Nat) (w : Nat → Int32) : Nat := cnt (fun c => decide (w c = 0)) n
def togF (n : Nat) (w : Nat → Int32) : Int32 := it (fun c s => s + absF (w c)) n 0
def wiP (x : Int32) (w : Nat → Int32) (c : Nat) : Option Int32 := if absF (w c) ≤ x then none else some 0
def wiF (n : Nat) (x : Int32) (w : Nat → Int32) : Int32 := (fst1 (wiP x w) n).getD 1
def dullP (k : Nat → Int32) (day : Int32) (w : Nat → Int32) (c a : Nat) : Option Int32 := if a = c then none else if canF (k c) day = 0 then none else if absF (wwF (k c) (w a) (w c)) < absF (w c) then some 0 else none
def dullF (k : Nat → Int32) (day : Int32) (n : Nat) (w : Nat → Int32) (c : Nat) : Int32 := (fst1 (dullP k day w c) n).getD (if absF (w c) = 0 then 0 else 1)
def putS {α : Type} (k : Nat) (x : α) (s : Nat → α) : Nat → α := fun j => if j = k then x else s j
def dropS {α : Type} (x : α) (s : Nat → α) : Nat → α := fun j => if j < 7 then s (j + 1) else x
def pushF {α : Type} (k : Nat) (x : α) (s : Nat → α) : Nat → α := if k < 8 then putS k x s else dropS x s
