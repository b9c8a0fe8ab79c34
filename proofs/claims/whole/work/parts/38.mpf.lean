-- right's answers
theorem rgt_0 {t : Int32 × Int32 × Int32} {fm f0 f1 : Int32} (h0 : fm = t.1) (_ : 1 = fm ∨ 2 = fm → f0 = t.2.1) (_ : 2 = fm → f1 = t.2.2) (h3 : fm = 0 ∨ fm = 1 ∨ fm = 2 ∨ fm = -4) : fm = rgtF 0 t := by
  rw [rgtF, ← h0]
  rcases h3 with h | h | h | h
  · rw [h, if_neg (by decide), if_neg (by decide), if_pos rfl]
  · rw [h, if_neg (by decide), if_neg (by decide), if_pos rfl]
  · rw [h, if_neg (by decide), if_neg (by decide), if_pos rfl]
  · rw [h, if_pos rfl]
theorem rgt_1a {t : Int32 × Int32 × Int32} {fm f0 f1 : Int32} (h0 : fm = t.1) (h1 : 1 = fm ∨ 2 = fm → f0 = t.2.1) (_ : 2 = fm → f1 = t.2.2) (h3 : fm = 0 ∨ fm = 1 ∨ fm = 2 ∨ fm = -4) (hc : ¬ fm < 1) : f0 = rgtF 1 t := by
  rw [rgtF, ← h0]
  rcases h3 with h | h | h | h
  · rw [h] at hc; exact absurd (by decide) hc
  · rw [h1 (Or.inl h.symm), h, if_neg (by decide), if_neg (by decide), if_neg (by decide), if_pos rfl]
  · rw [h1 (Or.inr h.symm), h, if_neg (by decide), if_neg (by decide), if_neg (by decide), if_pos rfl]
  · rw [h] at hc; exact absurd (by decide) hc
theorem rgt_1b {t : Int32 × Int32 × Int32} {fm f0 f1 : Int32} (h0 : fm = t.1) (_ : 1 = fm ∨ 2 = fm → f0 = t.2.1) (_ : 2 = fm → f1 = t.2.2) (h3 : fm = 0 ∨ fm = 1 ∨ fm = 2 ∨ fm = -4) (hc : fm < 1) : -4 = rgtF 1 t := by
  rw [rgtF, ← h0]
  rcases h3 with h | h | h | h
  · rw [h, if_neg (by decide), if_pos (by decide)]
  · rw [h] at hc; exact absurd hc (by decide)
  · rw [h] at hc; exact absurd hc (by decide)
  · rw [h, if_pos rfl]
theorem rgt_2a {t : Int32 × Int32 × Int32} {fm f0 f1 : Int32} (h0 : fm = t.1) (_ : 1 = fm ∨ 2 = fm → f0 = t.2.1) (h2 : 2 = fm → f1 = t.2.2) (h3 : fm = 0 ∨ fm = 1 ∨ fm = 2 ∨ fm = -4) (hc : ¬ fm < 2) : f1 = rgtF 2 t := by
  rw [rgtF, ← h0]
  rcases h3 with h | h | h | h
  · rw [h] at hc; exact absurd (by decide) hc
  · rw [h] at hc; exact absurd (by decide) hc
  · rw [h2 h.symm, h, if_neg (by decide), if_neg (by decide), if_neg (by decide), if_neg (by decide)]
  · rw [h] at hc; exact absurd (by decide) hc
theorem rgt_2b {t : Int32 × Int32 × Int32} {fm f0 f1 : Int32} (h0 : fm = t.1) (_ : 1 = fm ∨ 2 = fm → f0 = t.2.1) (_ : 2 = fm → f1 = t.2.2) (h3 : fm = 0 ∨ fm = 1 ∨ fm = 2 ∨ fm = -4) (hc : fm < 2) : -4 = rgtF 2 t := by
  rw [rgtF, ← h0]
  rcases h3 with h | h | h | h
  · rw [h, if_neg (by decide), if_pos (by decide)]
  · rw [h, if_neg (by decide), if_pos (by decide)]
  · rw [h] at hc; exact absurd hc (by decide)
  · rw [h, if_pos rfl]
