-- ORDERS AND TWOS, by numbers
theorem bit01 : ∀ t, t < 256 → ∀ c, c < 8 → (nI t >>> (nI c &&& 31)) &&& 1 = if t.testBit c then 1 else 0 := by decide +kernel
theorem bitor : ∀ t, t < 256 → ∀ c, c < 8 → nI t ||| (1 <<< (nI c &&& 31)) = nI (t ||| 2 ^ c) := by decide +kernel
theorem bitor_lt {t c : Nat} (ht : t < 256) (hc : c < 8) : t ||| 2 ^ c < 256 := Nat.or_lt_two_pow (n := 8) ht (Nat.pow_lt_pow_right (by decide) hc)
theorem nI_dec {a k : Nat} (h : k ≤ a) (z : Int) (hz : Int32.ofInt z = - nI k) : nI a + Int32.ofInt z = nI (a - k) := by
  rw [hz, ← Int32.sub_eq_add_neg]
  exact nI_sub' rfl rfl h
def freeP (t n c : Nat) : Option Nat := if t.testBit c = true then none else if cnt (fun j => !t.testBit j) c = n then some c else none
def freeN (t n : Nat) : Nat := (fst1 (freeP t n) 8).getD 8
def tk (ch : Nat → Nat) : Nat → Nat
  | 0 => 1
  | i + 1 => tk ch i ||| 2 ^ freeN (tk ch i) (ch i)
def ordN (ch : Nat → Nat) : Nat → Nat
  | 0 => 0
  | i + 1 => freeN (tk ch i) (ch i)
def ordO (n : Nat) (ch o : Nat → Nat) : Nat → Nat := fun j => if j < n then ordN ch j else o j
def advF (bd : Nat → Nat) : Nat → (Nat → Nat) → Bool × (Nat → Nat)
  | 0, ch => (false, ch)
  | i + 1, ch => if ch i + 1 < bd i then (true, updN ch i (ch i + 1)) else advF bd i (updN ch i 0)
theorem tk_congr {a b : Nat → Nat} : ∀ {q : Nat}, (∀ i, i < q → a i = b i) → tk a q = tk b q
  | 0, _ => rfl
  | q + 1, h => by rw [tk, tk, tk_congr (fun i hi => h i (by omega)), h q (by omega)]
theorem ordN_congr {a b : Nat → Nat} {q : Nat} (h : ∀ i, i < q → a i = b i) : ∀ j, j ≤ q → ordN a j = ordN b j
  | 0, _ => rfl
  | j + 1, hj => by rw [ordN, ordN, tk_congr (fun i hi => h i (by omega)), h j (by omega)]
theorem updN_congr {a b : Nat → Nat} {q i v : Nat} (h : ∀ i, i < q → a i = b i) : ∀ j, j < q → updN a i v j = updN b i v j := by
  intro j hj
  rw [updN, updN, h j hj]
theorem advF_congr {bd bd' : Nat → Nat} {q : Nat} (hb : ∀ i, i < q → bd i = bd' i) : ∀ {m : Nat} {a b : Nat → Nat}, m ≤ q → (∀ i, i < q → a i = b i) → (advF bd m a).1 = (advF bd' m b).1 ∧ ∀ i, i < q → (advF bd m a).2 i = (advF bd' m b).2 i
  | 0, _, _, _, h => ⟨rfl, h⟩
  | m + 1, a, b, hm, h => by
    rw [advF, advF, h m (by omega), hb m (by omega)]
    split
    · exact ⟨rfl, updN_congr h⟩
    · exact advF_congr hb (by omega) (updN_congr h)
/-- factorials -/
def fa : Nat → Nat
  | 0 => 1
  | n + 1 => (n + 1) * fa n
/-- how many orders of n clocks begin with 0 -/
def waysR (n : Nat) : Nat := fa (n - 1)
def bdR (n i : Nat) : Nat := n - 1 - i
def dgR (n y i : Nat) : Nat := y / fa (n - 2 - i) % (n - 1 - i)
theorem adv_R : ∀ n, n < 8 → ∀ y, y < waysR n → (advF (bdR n) (n - 1) (dgR n y)).1 = decide (y + 1 < waysR n) ∧ (y + 1 < waysR n → ∀ i, i < n - 1 → (advF (bdR n) (n - 1) (dgR n y)).2 i = dgR n (y + 1) i) := by decide +kernel
theorem ord_R : ∀ n, n < 8 → ∀ y, y < waysR n → ∀ i, i < n - 1 → freeN (tk (dgR n y) i) (dgR n y i) < n ∧ tk (dgR n y) i < 256 := by decide +kernel
theorem ord_R2 : ∀ n, n < 8 → 1 ≤ n → ∀ y, y < waysR n → ∀ j, j < n → ordN (dgR n y) j < n := by decide +kernel
theorem ways_R : ∀ n, n < 8 → 1 ≤ n → 1 ≤ waysR n ∧ waysR n ≤ 720 := by decide +kernel
theorem dgR_0 : ∀ n, n < 8 → ∀ i, i < n - 1 → dgR n 0 i = 0 := by decide +kernel
/-- one order's lessons -/
def ringW (k : Nat → Int32) (day : Int32) (od : Nat → Nat) (n : Nat) (w : Nat → Int32) : Nat → Int32 := itg 1 (fun i w => learnF k day (od (i - 1)) (od i) w) n w
def offR {α : Type} (s os : Int32) (a b : α) : α := if betterF s os = true then b else a
/-- the best of the first y orders -/
def bestR (k : Nat → Int32) (day : Int32) (n : Nat) (w : Nat → Int32) : Nat → Int32 × (Nat → Nat)
  | 0 => (-4, fun _ => 0)
  | y + 1 => let s := bestR k day n w y; let os := togF n (ringW k day (ordN (dgR n y)) n w); (offR s.1 os s.1 os, offR s.1 os s.2 (ordN (dgR n y)))
-- twos
def lo2 (t : Nat) : Nat := freeN t 0
def hi2 (t c : Nat) : Nat := freeN (t ||| 2 ^ freeN t 0) c
def tp (ch : Nat → Nat) : Nat → Nat
  | 0 => 0
  | j + 1 => (tp ch j ||| 2 ^ lo2 (tp ch j)) ||| 2 ^ hi2 (tp ch j) (ch j)
def pairS (n : Nat) (w : Nat → Int32) (ch : Nat → Nat) (j : Nat) (s : Int32 × (Nat → Int32)) : Int32 × (Nat → Int32) :=
  let lo := lo2 (tp ch j)
  let hi := hi2 (tp ch j) (ch j)
  if hi < n then (s.1 + apartF w lo hi, upd (upd s.2 lo (nI hi)) hi (nI lo)) else (s.1, upd s.2 lo (-4))
def places (n : Nat) : Nat := n + n % 2
def pairF (n : Nat) (w : Nat → Int32) (ch : Nat → Nat) (m0 : Nat → Int32) : Int32 × (Nat → Int32) := it (pairS n w ch) (places n / 2) (0, m0)
theorem tp_congr {a b : Nat → Nat} : ∀ {q : Nat}, (∀ i, i < q → a i = b i) → tp a q = tp b q
  | 0, _ => rfl
  | q + 1, h => by rw [tp, tp, tp_congr (fun i hi => h i (by omega)), h q (by omega)]
/-- 1, 3 times 1, 5 times 3 .. -/
def df : Nat → Nat
  | 0 => 1
  | n + 1 => (2 * n + 1) * df n
def waysP (n : Nat) : Nat := df (places n / 2)
def bdP (n i : Nat) : Nat := places n - 1 - 2 * i
def dgP (n y i : Nat) : Nat := y / df (places n / 2 - 1 - i) % (places n - 1 - 2 * i)
theorem adv_P : ∀ n, n < 8 → ∀ y, y < waysP n → (advF (bdP n) (places n / 2) (dgP n y)).1 = decide (y + 1 < waysP n) ∧ (y + 1 < waysP n → ∀ i, i < places n / 2 → (advF (bdP n) (places n / 2) (dgP n y)).2 i = dgP n (y + 1) i) := by decide +kernel
theorem two_P : ∀ n, n < 8 → ∀ y, y < waysP n → ∀ j, j < places n / 2 → lo2 (tp (dgP n y) j) < n ∧ hi2 (tp (dgP n y) j) (dgP n y j) < 8 ∧ tp (dgP n y) j < 256 ∧ lo2 (tp (dgP n y) j) ≠ hi2 (tp (dgP n y) j) (dgP n y j) := by decide +kernel
theorem ways_P : ∀ n, n < 8 → 1 ≤ waysP n ∧ waysP n ≤ 105 := by decide +kernel
theorem dgP_0 : ∀ n, n < 8 → ∀ i, i < places n / 2 → dgP n 0 i = 0 := by decide +kernel
