-- the model: items
abbrev MSt : Type := Nat × Nat × (Nat → Nat) × (Nat → Nat) × (Nat → Nat) × (Nat → Int32) × (Nat → Nat) × (Nat → Nat) × (Nat → Nat)
def wallM (wb : Nat → Int32) (a b : Nat) : Nat → Int32 := upd (upd wb a (bitF (wb a) b)) b (bitF (upd wb a (bitF (wb a) b) b) a)
def itemM (l : Nat) (nu : Nat → Nat) (s : MSt) : MSt :=
  if l = 99 then (s.1 + 1, s.2.1, updN s.2.2.1 s.1 (nu 0), updN s.2.2.2.1 s.1 (nu 1), updN s.2.2.2.2.1 s.1 (nu 2), upd s.2.2.2.2.2.1 s.1 0, s.2.2.2.2.2.2)
  else if l = 119 then (s.1, s.2.1, s.2.2.1, s.2.2.2.1, s.2.2.2.2.1, wallM s.2.2.2.2.2.1 (nu 0) (nu 1), s.2.2.2.2.2.2)
  else (s.1, s.2.1 + 1, s.2.2.1, s.2.2.2.1, s.2.2.2.2.1, s.2.2.2.2.2.1, updN s.2.2.2.2.2.2.1 s.2.1 (nu 0), updN s.2.2.2.2.2.2.2.1 s.2.1 (nu 1), updN s.2.2.2.2.2.2.2.2 s.2.1 (nu 2))
def rdM (tf : Nat → Nat) (x : Nat) : Nat → Nat → (Nat → Nat) → MSt → Option Nat × MSt
  | 0, _, _, s => (none, s)
  | f + 1, p, nu, s =>
    if x ≤ p then (none, s) else
      match (rdN tf (x - (p + 1)) (p + 1) 0 0 0 nu).1 with
      | none => (some p, s)
      | some q => if itemOK (tf p) (rdN tf (x - (p + 1)) (p + 1) 0 0 0 nu).2.1 (rdN tf (x - (p + 1)) (p + 1) 0 0 0 nu).2.2 s.1 s.2.1 then rdM tf x f q (rdN tf (x - (p + 1)) (p + 1) 0 0 0 nu).2.2 (itemM (tf p) (rdN tf (x - (p + 1)) (p + 1) 0 0 0 nu).2.2 s) else (some p, s)
theorem rowB_1 {t : Option Nat × Nat × (Nat → Nat)} {mn q : Nat} (h : t.1 = some q) (h2 : t.2.1 = mn) : rowB t mn = 1 := by
  rw [rowB, if_pos ⟨by rw [h]; rfl, h2⟩]
theorem rowB_ne {t : Option Nat × Nat × (Nat → Nat)} {mn : Nat} (h : ¬ rowB t mn = 0) : rowB t mn = 1 := by
  rw [rowB] at h ⊢
  split
  · rfl
  · rename_i z; rw [if_neg z] at h; exact absurd rfl h
theorem itemM_n {l : Nat} {nu : Nat → Nat} {n m : Nat} {kr kw kg : Nat → Nat} {wb : Nat → Int32} {ld te pu : Nat → Nat} {to : Nat} (hok : itemOK l to nu n m) (hn : n ≤ 7) (hm : m ≤ 9) : (itemM l nu (n, m, kr, kw, kg, wb, ld, te, pu)).1 ≤ 7 ∧ (itemM l nu (n, m, kr, kw, kg, wb, ld, te, pu)).2.1 ≤ 9 := by
  unfold itemOK at hok
  rw [itemM]
  split
  · exact ⟨by show n + 1 ≤ 7; omega, hm⟩
  · split
    · exact ⟨hn, hm⟩
    · exact ⟨hn, by show m + 1 ≤ 9; omega⟩
theorem rdM_end {tf : Nat → Nat} {x f p : Nat} {nu : Nat → Nat} {s : MSt} (h : x ≤ p) : rdM tf x f p nu s = (none, s) := by
  cases f with
  | zero => rw [rdM]
  | succ f => rw [rdM, if_pos h]
theorem rdM_s {tf : Nat → Nat} {x f p q : Nat} {nu : Nat → Nat} {s : MSt} (h : p < x) (hf : 1 ≤ f) (hq : (rdN tf (x - (p + 1)) (p + 1) 0 0 0 nu).1 = some q) (hok : itemOK (tf p) (rdN tf (x - (p + 1)) (p + 1) 0 0 0 nu).2.1 (rdN tf (x - (p + 1)) (p + 1) 0 0 0 nu).2.2 s.1 s.2.1) : rdM tf x f p nu s = rdM tf x (f - 1) q (rdN tf (x - (p + 1)) (p + 1) 0 0 0 nu).2.2 (itemM (tf p) (rdN tf (x - (p + 1)) (p + 1) 0 0 0 nu).2.2 s) := by
  obtain ⟨f, rfl⟩ : ∃ k, f = k + 1 := ⟨f - 1, by omega⟩
  rw [rdM, if_neg (by omega), hq]
  dsimp only
  rw [if_pos hok, Nat.add_sub_cancel]
theorem rdM_no {tf : Nat → Nat} {x f p : Nat} {nu : Nat → Nat} {s : MSt} (h : p < x) (hf : 1 ≤ f) (hno : ¬ ((rdN tf (x - (p + 1)) (p + 1) 0 0 0 nu).1.isSome = true ∧ itemOK (tf p) (rdN tf (x - (p + 1)) (p + 1) 0 0 0 nu).2.1 (rdN tf (x - (p + 1)) (p + 1) 0 0 0 nu).2.2 s.1 s.2.1)) : rdM tf x f p nu s = (some p, s) := by
  obtain ⟨f, rfl⟩ : ∃ k, f = k + 1 := ⟨f - 1, by omega⟩
  rw [rdM, if_neg (by omega)]
  cases hq : (rdN tf (x - (p + 1)) (p + 1) 0 0 0 nu).1 with
  | none => rfl
  | some q =>
    dsimp only
    rw [if_neg (fun z => hno ⟨by rw [hq]; rfl, z⟩)]
