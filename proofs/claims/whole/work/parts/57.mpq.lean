-- the two readings go together
abbrev RelB (n : Nat) (wa : Int32) (wb rwb : Nat → Int32) : Prop := ∃ (B : Nat → Nat) (wn : Nat), (∀ j, j < n → wb j = nI (B j) ∧ rwb j = nI (B j) ∧ B j < 128) ∧ (∀ a, a < n → ∀ b, b < n → (B a).testBit b = (B b).testBit a) ∧ (∀ a, a < n → ∀ b, n ≤ b → (B a).testBit b = false) ∧ (∀ a, a < n → (B a).testBit a = false) ∧ wa = nI wn ∧ sumN n B = 2 * wn
theorem RelB_new {n : Nat} {wa : Int32} {wb rwb : Nat → Int32} (hn : n < 7) (h : RelB n wa wb rwb) : RelB (n + 1) wa (upd wb n 0) (upd rwb n 0) := by
  obtain ⟨B, wn, h1, h2, h3, h5, h4, h6⟩ := h
  refine ⟨updN B n 0, wn, ?_, ?_, ?_, ?_, h4, ?_⟩
  · intro j hj
    by_cases e : j = n
    · rw [e, pk_us, pk_us, updN, if_pos rfl]
      exact ⟨rfl, rfl, by decide⟩
    · rw [pk_un e, pk_un e, updN, if_neg e]
      exact h1 j (by omega)
  · intro a ha b hb
    by_cases ea : a = n
    · by_cases eb : b = n
      · rw [ea, eb]
      · rw [ea, updN, if_pos rfl, updN, if_neg eb, Nat.zero_testBit, h3 b (by omega) n (Nat.le_refl _)]
    · by_cases eb : b = n
      · rw [eb, updN, if_neg ea, updN, if_pos rfl, Nat.zero_testBit, h3 a (by omega) n (Nat.le_refl _)]
      · rw [updN, if_neg ea, updN, if_neg eb]
        exact h2 a (by omega) b (by omega)
  · intro a ha b hb
    by_cases ea : a = n
    · rw [ea, updN, if_pos rfl, Nat.zero_testBit]
    · rw [updN, if_neg ea]
      exact h3 a (by omega) b (by omega)
  · intro a ha
    by_cases ea : a = n
    · rw [ea, updN, if_pos rfl, Nat.zero_testBit]
    · rw [updN, if_neg ea]
      exact h5 a (by omega)
  · rw [sumN_s, updN, if_pos rfl, sumN_c (A := updN B n 0) (B := B) (fun j hj => by rw [updN, if_neg (by omega)]), h6]
    rfl
theorem RelB_wall {n a b : Nat} {wa : Int32} {wb rwb : Nat → Int32} (hn : n ≤ 7) (ha : a < n) (hb : b < n) (hab : a ≠ b) (h : RelB n wa wb rwb) : RelB n (wallC wb a b wa) (wallB wb a b) (wallM rwb a b) := by
  obtain ⟨B, wn, h1, h2, h3, h5, h4, h6⟩ := h
  have hBa := (h1 a ha).2.2
  have hBb := (h1 b hb).2.2
  have hba : ¬ b = a := fun e => hab e.symm
  have eM : ∀ j, j < n → wallM rwb a b j = nI (updN (updN B a (B a ||| 2 ^ b)) b (B b ||| 2 ^ a) j) := by
    intro j hj
    rw [wallM]
    by_cases ej : j = b
    · rw [ej, pk_us, pk_un hba, (h1 b hb).2.1, bitF_N hBb (by omega), updN, if_pos rfl]
    · rw [pk_un ej, updN, if_neg ej]
      by_cases e2 : j = a
      · rw [e2, pk_us, (h1 a ha).2.1, bitF_N hBa (by omega), updN, if_pos rfl]
      · rw [pk_un e2, updN, if_neg e2]
        exact (h1 j hj).2.1
  have hbit : (hasF (wb a) b = 0) ↔ (B a).testBit b = false := by
    rw [(h1 a ha).1]
    exact has_bit _ (by omega) b (by omega)
  by_cases hz : hasF (wb a) b = 0
  · have hz2 := hbit.mp hz
    have hz3 : (B b).testBit a = false := by rw [← h2 a ha b hb]; exact hz2
    refine ⟨updN (updN B a (B a ||| 2 ^ b)) b (B b ||| 2 ^ a), wn + 1, ?_, ?_, ?_, ?_, ?_, ?_⟩
    · intro j hj
      refine ⟨?_, eM j hj, ?_⟩
      · rw [wallB, if_pos hz]
        by_cases ej : j = b
        · rw [ej, pk_us, pk_un hba, (h1 b hb).1, bitF_N hBb (by omega), updN, if_pos rfl]
        · rw [pk_un ej, updN, if_neg ej]
          by_cases e2 : j = a
          · rw [e2, pk_us, (h1 a ha).1, bitF_N hBa (by omega), updN, if_pos rfl]
          · rw [pk_un e2, updN, if_neg e2]
            exact (h1 j hj).1
      · rw [updN]
        split
        · exact or_lt _ hBb a (by omega)
        · rw [updN]
          split
          · exact or_lt _ hBa b (by omega)
          · exact (h1 j hj).2.2
    · have bt : ∀ c, c < n → ∀ d, d < n → (updN (updN B a (B a ||| 2 ^ b)) b (B b ||| 2 ^ a) c).testBit d = ((B c).testBit d || (decide (c = a ∧ d = b) || decide (c = b ∧ d = a))) := by
        intro c hc d hd
        rw [updN]
        by_cases ec : c = b
        · rw [if_pos ec, or_bit _ hBb a (by omega) d (by omega), ec]
          simp [hba]
        · rw [if_neg ec, updN]
          by_cases e2 : c = a
          · rw [if_pos e2, or_bit _ hBa b (by omega) d (by omega), e2]
            simp [hab]
          · rw [if_neg e2]
            simp [ec, e2]
      intro c hc d hd
      rw [bt c hc d hd, bt d hd c hc, h2 c hc d hd]
      congr 1
      rw [Bool.or_comm, decide_eq_decide.mpr (show (c = b ∧ d = a) ↔ (d = a ∧ c = b) from And.comm), decide_eq_decide.mpr (show (c = a ∧ d = b) ↔ (d = b ∧ c = a) from And.comm)]
    · intro c hc d hd
      rw [updN]
      split
      · rcases Nat.lt_or_ge d 7 with z | z
        · rw [or_bit _ hBb a (by omega) d z, h3 b hb d hd, decide_eq_false (by omega)]; rfl
        · exact bit_hi (or_lt _ hBb a (by omega)) z
      · rw [updN]
        split
        · rcases Nat.lt_or_ge d 7 with z | z
          · rw [or_bit _ hBa b (by omega) d z, h3 a ha d hd, decide_eq_false (by omega)]; rfl
          · exact bit_hi (or_lt _ hBa b (by omega)) z
        · exact h3 c hc d hd
    · intro c hc
      rw [updN]
      by_cases ec : c = b
      · rw [if_pos ec, or_bit _ hBb a (by omega) c (by omega), ec, h5 b hb, decide_eq_false hba]; rfl
      · rw [if_neg ec, updN]
        by_cases e2 : c = a
        · rw [if_pos e2, or_bit _ hBa b (by omega) c (by omega), e2, h5 a ha, decide_eq_false hab]; rfl
        · rw [if_neg e2]
          exact h5 c hc
    · rw [wallC, if_pos hz, h4, show (1 : Int32) = nI 1 from rfl, nI_add' rfl rfl]
    · have u1 := sumN_u (B := B) (a := a) (v := B a ||| 2 ^ b) ha
      have u2 := sumN_u (B := updN B a (B a ||| 2 ^ b)) (a := b) (v := B b ||| 2 ^ a) hb
      rw [show updN B a (B a ||| 2 ^ b) b = B b from by rw [updN, if_neg hba]] at u2
      have p1 := pc_or _ hBa b (by omega) hz2
      have p2 := pc_or _ hBb a (by omega) hz3
      omega
  · have hz2 : (B a).testBit b = true := by
      cases hc : (B a).testBit b with
      | true => rfl
      | false => exact absurd (hbit.mpr hc) hz
    have hz3 : (B b).testBit a = true := by rw [← h2 a ha b hb]; exact hz2
    refine ⟨B, wn, ?_, h2, h3, h5, by rw [wallC, if_neg hz]; exact h4, h6⟩
    intro j hj
    refine ⟨by rw [wallB, if_neg hz]; exact (h1 j hj).1, ?_, (h1 j hj).2.2⟩
    rw [eM j hj, or_same _ hBa b (by omega) hz2, or_same _ hBb a (by omega) hz3, updN]
    split
    · rename_i e; rw [e]
    · rw [updN]
      split
      · rename_i e; rw [e]
      · rfl
