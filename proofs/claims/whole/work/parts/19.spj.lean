-- WHAT THE CLASS'S CALLS ANSWER
abbrev okC (n : Nat) (c : Int32) : Prop := ¬ c < 0 ∧ ¬ nI n ≤ c
theorem okC_nat {n : Nat} {c : Int32} (hn : n < 2147483648) (h : okC n c) : ∃ k, k < n ∧ c = nI k := by
  obtain ⟨j, hj, rfl⟩ := nI_of h.1
  exact ⟨j, inle' h.2 hn (by omega), rfl⟩
theorem okC_nI {n k : Nat} (h : k < n) (hn : n < 2147483648) : okC n (nI k) := ⟨flt (b := 0) (by omega) (by omega) (by omega), fle h hn (by omega)⟩
def rgtF (k : Int32) (t : Int32 × Int32 × Int32) : Int32 := if t.1 = -4 then -4 else if t.1 < k then -4 else if k = 0 then t.1 else if k = 1 then t.2.1 else t.2.2
def goilF (c t : Nat) (g : Nat → Int32) : Nat → Int32 := it (fun _ g => if g c = 0 then g else upd g c (oilF (g c))) t g
def oilsP (k wb : Nat → Int32) (ld te pu : Nat → Nat) (n m : Nat) (g : Nat → Int32) (day : Int32) (w : Nat → Int32) (c q : Nat) (x : Int32) (t : Nat) : Option Int32 := if absF (daysF k wb ld te pu n m (goilF c t g) day q w c) ≤ x then some (nI t) else none
def oilsF (k wb : Nat → Int32) (ld te pu : Nat → Nat) (n m : Nat) (g : Nat → Int32) (day : Int32) (w : Nat → Int32) (c q : Nat) (x : Int32) : Int32 := (fst1 (oilsP k wb ld te pu n m g day w c q x) 11).getD (-4)
def dullB (k : Nat → Int32) (day : Int32) (n q : Nat) (w : Nat → Int32) : Int32 := it (fun c s => if dullF k day n w c = 0 then s else s ||| (1 <<< (nI c &&& 31))) q 0
def tauQ (k : Nat → Int32) (day : Int32) (w : Nat → Int32) (z : Nat) (rc : Nat → Nat) (rm : Nat → Int32) (a b : Nat) (s : Nat × Int32) : Nat × Int32 :=
  if a = b then s else if canF (k b) day = 0 then s else if fitF z rc rm (learnF k day a b w) = 0 then s else (s.1 + 1, if s.1 = 0 then nI (10 * a + b) else s.2)
def tauP (k : Nat → Int32) (day : Int32) (n : Nat) (w : Nat → Int32) (z : Nat) (rc : Nat → Nat) (rm : Nat → Int32) (a : Nat) (s : Nat × Int32) : Nat × Int32 := it (tauQ k day w z rc rm a) n s
def tauF (k : Nat → Int32) (day : Int32) (n : Nat) (w : Nat → Int32) (z : Nat) (rc : Nat → Nat) (rm : Nat → Int32) : Nat × Int32 := it (tauP k day n w z rc rm) n (0, -4)
def setS (k : Nat → Int32) (n : Nat) (w : Nat → Int32) (z : Nat) (rc : Nat → Nat) (rm : Nat → Int32) (i : Nat) (s : Nat × Int32) : Nat × Int32 :=
  if fitF z rc rm (seeF k n (nI i - 100) w) = 0 then s else (s.1 + 1, if s.1 = 0 then nI i - 100 + 100 else s.2)
def setF (k : Nat → Int32) (n : Nat) (w : Nat → Int32) (z : Nat) (rc : Nat → Nat) (rm : Nat → Int32) : Nat × Int32 := it (setS k n w z rc rm) 201 (0, -4)
theorem seeF_s (k : Nat → Int32) (n : Nat) (x : Int32) (w : Nat → Int32) : seeF k (n + 1) x w = if k n = 3 then seeF k n x w else upd (seeF k n x w) n (clampF x) := rfl
theorem seeF_at {k : Nat → Int32} {x : Int32} {w : Nat → Int32} {n : Nat} (j : Nat) : seeF k n x w j = if j < n ∧ ¬ k j = 3 then clampF x else w j := by
  induction n with
  | zero => rw [if_neg (by omega)]; rfl
  | succ n ih =>
    rw [seeF_s]
    by_cases h3 : k n = 3
    · rw [if_pos h3, ih]
      by_cases hj : j < n ∧ ¬ k j = 3
      · rw [if_pos hj, if_pos ⟨by omega, hj.2⟩]
      · rw [if_neg hj, if_neg (fun z => by
          by_cases e : j = n
          · subst e; exact z.2 h3
          · exact hj ⟨by omega, z.2⟩)]
    · rw [if_neg h3]
      by_cases e : j = n
      · subst e
        rw [pk_us, if_pos ⟨by omega, h3⟩]
      · rw [pk_un e, ih]
        by_cases hj : j < n ∧ ¬ k j = 3
        · rw [if_pos hj, if_pos ⟨by omega, hj.2⟩]
        · rw [if_neg hj, if_neg (fun z => hj ⟨by omega, z.2⟩)]
theorem seeF_see {k : Nat → Int32} {n : Nat} {x x' : Int32} {w : Nat → Int32} : seeF k n x (seeF k n x' w) = seeF k n x w := by
  funext j
  rw [seeF_at, seeF_at, seeF_at]
  by_cases h : j < n ∧ ¬ k j = 3
  · rw [if_pos h, if_pos h]
  · rw [if_neg h, if_neg h, if_neg h]
theorem setm_lt : ∀ i, i < 201 → ¬ (100 : Int32) < nI i - 100 := by decide +kernel
theorem setm_s (i : Nat) : nI i - 100 + Int32.ofInt 1 = nI (i + 1) - 100 := by
  rw [nI_succ, show Int32.ofInt 1 = 1 from by decide, Int32.sub_eq_add_neg, Int32.sub_eq_add_neg, Int32.add_assoc, Int32.add_assoc, Int32.add_comm (-100) 1]
def chiS (w : Nat → Int32) (c o : Nat) (s : Int32 × Int32) : Int32 × Int32 := if o = c then s else if s.1 = -4 then (nI o, apartF w c o) else if apartF w c o < s.2 then (nI o, apartF w c o) else s
def chiF (n : Nat) (w : Nat → Int32) (c : Nat) : Int32 := (it (chiS w c) n (-4, 0)).1
def draS (k wb : Nat → Int32) (ld te pu : Nat → Nat) (n m : Nat) (g : Nat → Int32) (x day : Int32) (dd i : Nat) (s : Int32 × (Nat → Int32)) : Int32 × (Nat → Int32) :=
  if hasF (nI dd) i = 0 then (s.1 * (10 - x), dayF k wb ld te pu n m g 1 (day + nI i) s.2) else (s.1 * x, dayF k wb ld te pu n m g 0 (day + nI i) s.2)
def draF (k wb : Nat → Int32) (ld te pu : Nat → Nat) (n m : Nat) (g : Nat → Int32) (x day : Int32) (w : Nat → Int32) (q dd : Nat) : Int32 × (Nat → Int32) := it (draS k wb ld te pu n m g x day dd) q (1, w)
def aboF (k wb : Nat → Int32) (ld te pu : Nat → Nat) (n m : Nat) (g : Nat → Int32) (x day : Int32) (w : Nat → Int32) (c q dd : Nat) : Int32 := it (fun dd ab => ab + (if (draF k wb ld te pu n m g x day w q dd).2 c = 0 then (draF k wb ld te pu n m g x day w q dd).1 else 0)) dd 0
def tenF (q : Nat) : Int32 := it (fun _ b => b * 10) q 1
def redS (s : Int32 × Int32) : Int32 × Int32 :=
  let t := if remI s.1 2 = 0 ∧ remI s.2 2 = 0 then (s.1 / 2, s.2 / 2) else s
  if remI t.1 5 = 0 ∧ remI t.2 5 = 0 then (t.1 / 5, t.2 / 5) else t
def lowF (a : Int32) (q : Nat) : Int32 × Int32 := it (fun _ s => redS s) q (a, tenF q)
theorem shl2 : ∀ q, q < 7 → (1 : Int32) <<< (nI q &&& 31) = nI (2 ^ q) := by decide +kernel
theorem pow64 : ∀ q, q < 7 → 2 ^ q ≤ 64 := by decide
/-- what is drawn ahead of the k-th day -/
def drN (z k : Nat) : Nat := (7919 * z + 6151 * k + 1) * (7919 * z + 6151 * k + 1) % 65521 / 8
theorem lN_lit (n : Nat) : lN n = Int64.ofNat n := rfl
theorem lN_toI {n : Nat} (h : n < 9223372036854775808) : (lN n).toInt = (n : Int) := Int64.toInt_ofNat_of_lt h
theorem lN_tdiv {a b : Nat} (ha : a < 9223372036854775808) (hb : b < 9223372036854775808) (h0 : b ≠ 0) : lN a / lN b = lN (a / b) := by
  apply Int64.toInt_inj.mp
  have h1 : a / b < 9223372036854775808 := Nat.lt_of_le_of_lt (Nat.div_le_self a b) ha
  rw [Int64.toInt_div, lN_toI ha, lN_toI hb, lN_toI h1, ← Int.ofNat_tdiv]
  generalize a / b = q at *
  rw [Int.bmod_eq_of_le] <;> omega
theorem lN_mod {a b : Nat} (ha : a < 9223372036854775808) (hb : b < 9223372036854775808) (h0 : b ≠ 0) : lN a - lN a / lN b * lN b = lN (a % b) := by
  rw [lN_tdiv ha hb h0, lN_mul]
  have h := Nat.div_add_mod a b
  rw [Nat.mul_comm] at h
  rw [lN_sub (by omega)]
  congr 1
  omega
theorem draw_eq {z k : Nat} (hz : z ≤ 9999) (hk : k < 60) :
    (((((7919 : Int64) * (nI z).toInt64 + 6151 * (nI k).toInt64 + 1) * (7919 * (nI z).toInt64 + 6151 * (nI k).toInt64 + 1)) - ((7919 * (nI z).toInt64 + 6151 * (nI k).toInt64 + 1) * (7919 * (nI z).toInt64 + 6151 * (nI k).toInt64 + 1)) / 65521 * 65521) / 8).toInt32 = nI (drN z k) := by
  rw [nI_l (by omega), nI_l (by omega)]
  rw [show (7919 : Int64) = lN 7919 from rfl, show (6151 : Int64) = lN 6151 from rfl, show (1 : Int64) = lN 1 from rfl, show (65521 : Int64) = lN 65521 from rfl, show (8 : Int64) = lN 8 from rfl]
  rw [lN_mul, lN_mul, lN_add, lN_add, lN_mul]
  have hb : 7919 * z + 6151 * k + 1 ≤ 79600000 := by omega
  have hb2 : (7919 * z + 6151 * k + 1) * (7919 * z + 6151 * k + 1) ≤ 79600000 * 79600000 := Nat.mul_le_mul hb hb
  rw [lN_mod (by omega) (by omega) (by omega), lN_tdiv (by omega) (by omega) (by omega), lN_i]
  rfl
def yrS (k wb : Nat → Int32) (ld te pu : Nat → Nat) (n m : Nat) (g : Nat → Int32) (day : Int32) (z i : Nat) (w : Nat → Int32) : Nat → Int32 :=
  dayF k wb ld te pu n m g 1 (day + nI i) (if drN z i % n = drN z i / 8 % n then w else if canF (k (drN z i / 8 % n)) (day + nI i) = 0 then w else learnF k (day + nI i) (drN z i % n) (drN z i / 8 % n) w)
def yrF (k wb : Nat → Int32) (ld te pu : Nat → Nat) (n m : Nat) (g : Nat → Int32) (day : Int32) (z q : Nat) (w : Nat → Int32) : Nat → Int32 := it (yrS k wb ld te pu n m g day z) q w
theorem fst1_in {α : Type} {f : Nat → Option α} {r : α} : ∀ {n : Nat}, fst1 f n = some r → ∃ i, i < n ∧ f i = some r
  | 0, h => by cases h
  | n + 1, h => by
    cases hn : fst1 f n with
    | none => rw [fst1_s hn] at h; exact ⟨n, by omega, h⟩
    | some r' =>
      have h2 := fst1_st (k := 1) hn
      rw [h] at h2
      cases h2
      obtain ⟨i, h3, h4⟩ := fst1_in hn
      exact ⟨i, by omega, h4⟩
theorem fitF_01 (z : Nat) (rc : Nat → Nat) (rm w : Nat → Int32) : fitF z rc rm w = 0 ∨ fitF z rc rm w = 1 := by
  rw [fitF]
  cases h : fst1 (fitP rc rm w) z with
  | none => exact Or.inr rfl
  | some r =>
    obtain ⟨i, -, h2⟩ := fst1_in h
    rw [fitP] at h2
    split at h2
    · cases h2
    · cases h2; exact Or.inl rfl
theorem fit_bool (z : Nat) (rc : Nat → Nat) (rm w : Nat → Int32) : narrow .boolean (.int (fitF z rc rm w)) = .int (fitF z rc rm w) := by
  rcases fitF_01 z rc rm w with h | h <;> rw [h] <;> rfl
theorem rdF_lt {tf : Nat → Nat} {x : Nat} : ∀ {f p : Nat} {nu : Nat → Nat} {s : HS} {q : Nat}, (rdF tf x f p nu s).1 = some q → q < x
  | 0, p, nu, s, q, h => by rw [rdF] at h; cases h
  | f + 1, p, nu, s, q, h => by
    rw [rdF] at h
    split at h
    · cases h
    · rename_i hp
      split at h
      · cases h; omega
      · split at h
        · exact rdF_lt h
        · cases h; omega
