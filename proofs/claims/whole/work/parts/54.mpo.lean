-- the model: laying
def mixF {α : Type} (i : Nat) (a b : Nat → α) : Nat → α := fun j => if j < i then a j else b j
theorem mix_0 {α : Type} (a b : Nat → α) : b = mixF 0 a b := by
  funext j
  rw [mixF, if_neg (Nat.not_lt_zero _)]
theorem mix_s {i : Nat} {a b w1 : Nat → Int32} {v : Int32} (h : w1 = mixF i a b) (hv : v = a i) : upd w1 i v = mixF (i + 1) a b := by
  funext j
  by_cases e : j = i
  · rw [e, pk_us, mixF, if_pos (by omega), hv]
  · rw [pk_un e, h, mixF, mixF]
    by_cases q : j < i
    · rw [if_pos q, if_pos (by omega)]
    · rw [if_neg q, if_neg (by omega)]
theorem mix_leF {k : Nat} {a0 a1 a2 b0 b1 b2 : Nat → Nat} {w1 : Nat → Int32} (h : w1 = mixF (3 * k) (leF a0 a1 a2) (leF b0 b1 b2)) : ∀ j, j < 27 → w1 j = leF (mixF k a0 b0) (mixF k a1 b1) (mixF k a2 b2) j := by
  intro j _
  rw [h, mixF]
  by_cases q : j < 3 * k
  · rw [if_pos q, leF, leF]
    have e : j / 3 < k := by omega
    simp only [mixF, if_pos e]
  · rw [if_neg q, leF, leF]
    have e : ¬ j / 3 < k := by omega
    simp only [mixF, if_neg e]
def kM (kr : Nat → Nat) (j : Nat) : Int32 := nI (kr j)
def wM (kw : Nat → Nat) (j : Nat) : Int32 := nI (kw j) - 100
def gM (kg : Nat → Nat) (j : Nat) : Int32 := nI (kg j) - 10
