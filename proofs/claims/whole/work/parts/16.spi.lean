-- READING A TEXT
def resI (o : Option Nat) : Int32 := match o with
  | none => -4
  | some q => nI q
theorem nI_ne4 {a : Nat} (h : a < 2147483648) : ¬ nI a = -4 := by
  intro e
  have e1 := congrArg Int32.toInt e
  rw [nIa a h, show (-4 : Int32).toInt = -4 from by decide] at e1
  omega
/-- the numbers of an item from p on: the place behind them, how many, the numbers -/
def rdN (tf : Nat → Nat) : Nat → Nat → Nat → Nat → Nat → (Nat → Nat) → Option Nat × Nat × (Nat → Nat)
  | 0, _, _, _, to, nu => (none, to, nu)
  | d + 1, p, fig, num, to, nu =>
    if tf p < 48 ∨ 57 < tf p then
      if tf p = 44 ∨ tf p = 59 then
        if fig < 1 ∨ 3 ≤ to then (none, to, nu)
        else if tf p = 59 then (some (p + 1), to + 1, updN nu to num) else rdN tf d (p + 1) 0 0 (to + 1) (updN nu to num)
      else (none, to, nu)
    else if 3 < fig + 1 then (none, to, nu) else rdN tf d (p + 1) (fig + 1) (10 * num + tf p - 48) to nu
theorem rdN_le {tf : Nat → Nat} : ∀ {d p fig num to : Nat} {nu : Nat → Nat} {q : Nat}, (rdN tf d p fig num to nu).1 = some q → p < q ∧ q ≤ p + d
  | 0, p, fig, num, to, nu, q, h => by rw [rdN] at h; cases h
  | d + 1, p, fig, num, to, nu, q, h => by
    rw [rdN] at h
    split at h
    · split at h
      · split at h
        · cases h
        · split at h
          · cases h; omega
          · have := rdN_le h; omega
      · cases h
    · split at h
      · cases h
      · have := rdN_le h; omega
theorem rdN_to {tf : Nat → Nat} : ∀ {d p fig num to : Nat} {nu : Nat → Nat}, to ≤ 3 → (rdN tf d p fig num to nu).2.1 ≤ 3
  | 0, p, fig, num, to, nu, h => by rw [rdN]; exact h
  | d + 1, p, fig, num, to, nu, h => by
    rw [rdN]
    split
    · split
      · split
        · exact h
        · split
          · show to + 1 ≤ 3; omega
          · exact rdN_to (by omega)
      · exact h
    · split
      · exact h
      · exact rdN_to h
theorem rdN_nu {tf : Nat → Nat} : ∀ {d p fig num to : Nat} {nu : Nat → Nat}, (fig = 0 → num = 0) → (fig = 1 → num ≤ 9) → (fig = 2 → num ≤ 99) → num ≤ 999 → (∀ j, j < 3 → nu j < 1000) → ∀ j, j < 3 → (rdN tf d p fig num to nu).2.2 j < 1000
  | 0, p, fig, num, to, nu, _, _, _, _, h => by rw [rdN]; exact h
  | d + 1, p, fig, num, to, nu, h0, h1, h2, h3, h => by
    have hu : ∀ j, j < 3 → updN nu to num j < 1000 := fun j hj => by
      rw [updN]
      split
      · omega
      · exact h j hj
    rw [rdN]
    split
    · split
      · split
        · exact h
        · split
          · exact hu
          · exact rdN_nu (fun _ => rfl) (by omega) (by omega) (by omega) hu
      · exact h
    · split
      · exact h
      · exact rdN_nu (by omega) (by omega) (by omega) (by omega) h
/-- clocks, walls, lessons; kinds, wrong, gains, wall bits; days, teachers, pupils -/
abbrev HS : Type := Nat × Int32 × Nat × (Nat → Int32) × (Nat → Int32) × (Nat → Int32) × (Nat → Int32) × (Nat → Nat) × (Nat → Nat) × (Nat → Nat)
abbrev itemOK (l to : Nat) (nu : Nat → Nat) (n m : Nat) : Prop := (l = 99 ∧ to = 3 ∧ n < 7 ∧ nu 0 ≤ 4 ∧ nu 1 ≤ 200 ∧ nu 2 ≤ 20) ∨ (l = 119 ∧ to = 2 ∧ nu 0 < n ∧ nu 1 < n ∧ nu 0 ≠ nu 1) ∨ (l = 108 ∧ to = 3 ∧ m < 9 ∧ nu 0 < 14 ∧ nu 1 < n ∧ nu 2 < n ∧ nu 1 ≠ nu 2)
def bitF (x : Int32) (b : Nat) : Int32 := x ||| (1 <<< (nI b &&& 31))
def wallB (wb : Nat → Int32) (a b : Nat) : Nat → Int32 := if hasF (wb a) b = 0 then upd (upd wb a (bitF (wb a) b)) b (bitF (upd wb a (bitF (wb a) b) b) a) else wb
def wallC (wb : Nat → Int32) (a b : Nat) (wa : Int32) : Int32 := if hasF (wb a) b = 0 then wa + 1 else wa
def itemF (l : Nat) (nu : Nat → Nat) (s : HS) : HS :=
  if l = 99 then (s.1 + 1, s.2.1, s.2.2.1, upd s.2.2.2.1 s.1 (nI (nu 0)), upd s.2.2.2.2.1 s.1 (nI (nu 1) - 100), upd s.2.2.2.2.2.1 s.1 (nI (nu 2) - 10), upd s.2.2.2.2.2.2.1 s.1 0, s.2.2.2.2.2.2.2)
  else if l = 119 then (s.1, wallC s.2.2.2.2.2.2.1 (nu 0) (nu 1) s.2.1, s.2.2.1, s.2.2.2.1, s.2.2.2.2.1, s.2.2.2.2.2.1, wallB s.2.2.2.2.2.2.1 (nu 0) (nu 1), s.2.2.2.2.2.2.2)
  else (s.1, s.2.1, s.2.2.1 + 1, s.2.2.2.1, s.2.2.2.2.1, s.2.2.2.2.2.1, s.2.2.2.2.2.2.1, updN s.2.2.2.2.2.2.2.1 s.2.2.1 (nu 0), updN s.2.2.2.2.2.2.2.2.1 s.2.2.1 (nu 1), updN s.2.2.2.2.2.2.2.2.2 s.2.2.1 (nu 2))

def rdF (tf : Nat → Nat) (x : Nat) : Nat → Nat → (Nat → Nat) → HS → Option Nat × HS
  | 0, _, _, s => (none, s)
  | f + 1, p, nu, s =>
    if x ≤ p then (none, s) else
      match (rdN tf (x - (p + 1)) (p + 1) 0 0 0 nu).1 with
      | none => (some p, s)
      | some q => if itemOK (tf p) (rdN tf (x - (p + 1)) (p + 1) 0 0 0 nu).2.1 (rdN tf (x - (p + 1)) (p + 1) 0 0 0 nu).2.2 s.1 s.2.2.1 then rdF tf x f q (rdN tf (x - (p + 1)) (p + 1) 0 0 0 nu).2.2 (itemF (tf p) (rdN tf (x - (p + 1)) (p + 1) 0 0 0 nu).2.2 s) else (some p, s)
theorem item_nm {l to n m : Nat} {nu : Nat → Nat} {wa : Int32} {k fw fg wb : Nat → Int32} {ld te pu : Nat → Nat} (hok : itemOK l to nu n m) (hn : n ≤ 7) (hm : m ≤ 9) : (itemF l nu (n, wa, m, k, fw, fg, wb, ld, te, pu)).1 ≤ 7 ∧ (itemF l nu (n, wa, m, k, fw, fg, wb, ld, te, pu)).2.2.1 ≤ 9 := by
  rw [itemF]
  split
  · rename_i h
    rcases hok with h0 | h0 | h0
    · exact ⟨by show n + 1 ≤ 7; omega, hm⟩
    · omega
    · omega
  · split
    · exact ⟨hn, hm⟩
    · rename_i h1 h2
      rcases hok with h0 | h0 | h0
      · omega
      · omega
      · exact ⟨hn, by show m + 1 ≤ 9; omega⟩
theorem rdF_end {tf : Nat → Nat} {x f p : Nat} {nu : Nat → Nat} {s : HS} (h : f = 0 ∨ x ≤ p) : rdF tf x f p nu s = (none, s) := by
  cases f with
  | zero => rw [rdF]
  | succ f => rw [rdF, if_pos (by omega)]
