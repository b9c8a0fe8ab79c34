-- the model: rows of numbers
def rowB (t : Option Nat × Nat × (Nat → Nat)) (mn : Nat) : Int32 := if t.1.isSome = true ∧ t.2.1 = mn then 1 else 0
theorem rowB_01 (t : Option Nat × Nat × (Nat → Nat)) (mn : Nat) : narrow .boolean (.int (rowB t mn)) = .int (rowB t mn) := by
  rw [rowB]; split <;> rfl
theorem rowB_n {t : Option Nat × Nat × (Nat → Nat)} {mn : Nat} (h : t.1 = none) : rowB t mn = 0 := by
  rw [rowB, h, if_neg (fun z => absurd z.1 (by decide))]
theorem rowB_m {t : Option Nat × Nat × (Nat → Nat)} {mn : Nat} (h : t.2.1 ≠ mn) : rowB t mn = 0 := by rw [rowB, if_neg (fun z => h z.2)]
theorem rdN_ge {tf : Nat → Nat} : ∀ {d p fig num to : Nat} {nu : Nat → Nat}, (rdN tf d p fig num to nu).1.isSome = true → to + 1 ≤ (rdN tf d p fig num to nu).2.1
  | 0, p, fig, num, to, nu, h => by rw [rdN] at h; exact absurd h (by simp)
  | d + 1, p, fig, num, to, nu, h => by
    rw [rdN] at h ⊢
    by_cases c1 : tf p < 48 ∨ 57 < tf p
    · rw [if_pos c1] at h ⊢
      by_cases c2 : tf p = 44 ∨ tf p = 59
      · rw [if_pos c2] at h ⊢
        by_cases c3 : fig < 1 ∨ 3 ≤ to
        · rw [if_pos c3] at h; exact absurd h (by simp)
        · rw [if_neg c3] at h ⊢
          by_cases c4 : tf p = 59
          · rw [if_pos c4]; exact Nat.le_refl _
          · rw [if_neg c4] at h ⊢
            have := rdN_ge h
            omega
      · rw [if_neg c2] at h; exact absurd h (by simp)
    · rw [if_neg c1] at h ⊢
      by_cases c2 : 3 < fig + 1
      · rw [if_pos c2] at h; exact absurd h (by simp)
      · rw [if_neg c2] at h ⊢
        exact rdN_ge h
theorem row_out {tf : Nat → Nat} {x p fig num to mn : Nat} {nu : Nat → Nat} (h : ¬ p < x) : rowB (rdN tf (x - p) p fig num to nu) mn = 0 := by
  rw [show x - p = 0 by omega, rdN]; exact rowB_n rfl
theorem row_0 {tf : Nat → Nat} {x p num to mn : Nat} {nu : Nat → Nat} (h : p < x → tf p < 48 ∨ 57 < tf p) : rowB (rdN tf (x - p) p 0 num to nu) mn = 0 := by
  by_cases hp : p < x
  · rw [show x - p = (x - (p + 1)) + 1 by omega, rdN, if_pos (h hp)]
    split
    · rw [if_pos (Or.inl (by omega))]; exact rowB_n rfl
    · exact rowB_n rfl
  · exact row_out hp
theorem row_no {tf : Nat → Nat} {x p fig num to mn : Nat} {nu : Nat → Nat} (hp : p < x) (hf : (tf p < 48 ∨ 57 < tf p) ∨ fig = 3) (hto : to < mn) (hl : tf p ≠ if to = mn - 1 then 59 else 44) : rowB (rdN tf (x - p) p fig num to nu) mn = 0 := by
  rw [show x - p = (x - (p + 1)) + 1 by omega, rdN]
  by_cases c1 : tf p < 48 ∨ 57 < tf p
  · rw [if_pos c1]
    by_cases c2 : tf p = 44 ∨ tf p = 59
    · rw [if_pos c2]
      by_cases c3 : fig < 1 ∨ 3 ≤ to
      · rw [if_pos c3]; exact rowB_n rfl
      · rw [if_neg c3]
        by_cases c4 : tf p = 59
        · rw [if_pos c4]
          refine rowB_m ?_
          show to + 1 ≠ mn
          intro e
          rw [if_pos (by omega)] at hl
          exact hl c4
        · rw [if_neg c4]
          by_cases e : to = mn - 1
          · by_cases z : (rdN tf (x - (p + 1)) (p + 1) 0 0 (to + 1) (updN nu to num)).1.isSome = true
            · have := rdN_ge z
              exact rowB_m (by omega)
            · exact rowB_n (by simpa using z)
          · rw [if_neg e] at hl
            rcases c2 with c2 | c2
            · exact absurd c2 hl
            · exact absurd c2 c4
    · rw [if_neg c2]; exact rowB_n rfl
  · rw [if_neg c1, if_pos (by omega)]; exact rowB_n rfl
theorem row_dig {tf : Nat → Nat} {x p fig num to : Nat} {nu : Nat → Nat} (hp : p < x) (hd : ¬ (tf p < 48 ∨ 57 < tf p)) (hf : fig < 3) : rdN tf (x - p) p fig num to nu = rdN tf (x - (p + 1)) (p + 1) (fig + 1) (10 * num + tf p - 48) to nu := by
  rw [show x - p = (x - (p + 1)) + 1 by omega, rdN, if_neg hd, if_neg (by omega)]
theorem row_sep {tf : Nat → Nat} {x p fig num to : Nat} {nu : Nat → Nat} (hp : p < x) (hl : tf p = 44) (hf : 1 ≤ fig) (hto : to < 3) : rdN tf (x - p) p fig num to nu = rdN tf (x - (p + 1)) (p + 1) 0 0 (to + 1) (updN nu to num) := by
  rw [show x - p = (x - (p + 1)) + 1 by omega, rdN, if_pos (by omega), if_pos (by omega), if_neg (by omega), if_neg (by omega)]
theorem row_fin {tf : Nat → Nat} {x p fig num to : Nat} {nu : Nat → Nat} (hp : p < x) (hl : tf p = 59) (hf : 1 ≤ fig) (hto : to < 3) : rdN tf (x - p) p fig num to nu = (some (p + 1), to + 1, updN nu to num) := by
  rw [show x - p = (x - (p + 1)) + 1 by omega, rdN, if_pos (by omega), if_pos (by omega), if_neg (by omega), if_pos hl]
theorem dig_0 {l : Nat} (hl : l < 1000) (h : inF (nI l) 48 57 = 0) : l < 48 ∨ 57 < l := by
  by_cases z : 48 ≤ l ∧ l ≤ 57
  · exact absurd h (inF_ne (v := l) (lo := 48) (hi := 57) z (by omega))
  · omega
theorem dig_1 {l : Nat} (hl : l < 1000) (h : ¬ inF (nI l) 48 57 = 0) : 48 ≤ l ∧ l ≤ 57 := by
  obtain ⟨h1, h2⟩ := inF_of h
  exact ⟨inlt' (a := l) (b := 48) h1 (by omega) (by omega), inlt' (a := 57) (b := l) h2 (by omega) (by omega)⟩
