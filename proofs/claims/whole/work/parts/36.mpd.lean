-- the model: right, taught, heard, child
theorem wiF_01 (n : Nat) (x : Int32) (w : Nat → Int32) : wiF n x w = 0 ∨ wiF n x w = 1 := by
  rw [wiF]
  cases h : fst1 (wiP x w) n with
  | none => exact Or.inr rfl
  | some r =>
    obtain ⟨i, -, h2⟩ := fst1_in h
    rw [wiP] at h2
    split at h2
    · cases h2
    · cases h2; exact Or.inl rfl
theorem wi_bool (n : Nat) (x : Int32) (w : Nat → Int32) : narrow .boolean (.int (wiF n x w)) = .int (wiF n x w) := by
  rcases wiF_01 n x w with h | h <;> rw [h] <;> rfl
theorem wiF_s0 {n : Nat} {x : Int32} {w : Nat → Int32} (h : wiF n x w = 0) : wiF (n + 1) x w = 0 := by
  rw [wiF] at h
  cases hn : fst1 (wiP x w) n with
  | none => rw [hn] at h; exact absurd h (by decide)
  | some r =>
    rw [hn] at h
    rw [wiF, fst1_st (k := 1) hn]
    exact h
theorem wiF_s1 {n : Nat} {x : Int32} {w : Nat → Int32} (h : ¬ wiF n x w = 0) : wiF (n + 1) x w = if absF (w n) ≤ x then 1 else 0 := by
  rw [wiF] at h
  cases hn : fst1 (wiP x w) n with
  | none =>
    rw [wiF, fst1_s hn, wiP]
    split <;> rfl
  | some r =>
    rw [hn] at h
    obtain ⟨i, -, h2⟩ := fst1_in hn
    rw [wiP] at h2
    split at h2
    · cases h2
    · cases h2; exact absurd rfl h
theorem fitF_s0 {n : Nat} {rc : Nat → Nat} {rm w : Nat → Int32} (h : fitF n rc rm w = 0) : fitF (n + 1) rc rm w = 0 := by
  rw [fitF] at h
  cases hn : fst1 (fitP rc rm w) n with
  | none => rw [hn] at h; exact absurd h (by decide)
  | some r =>
    rw [hn] at h
    rw [fitF, fst1_st (k := 1) hn]
    exact h
theorem fitF_s1 {n : Nat} {rc : Nat → Nat} {rm w : Nat → Int32} (h : ¬ fitF n rc rm w = 0) : fitF (n + 1) rc rm w = if w (rc n) = rm n then 1 else 0 := by
  rw [fitF] at h
  cases hn : fst1 (fitP rc rm w) n with
  | none =>
    rw [fitF, fst1_s hn, fitP]
    split <;> rfl
  | some r =>
    rw [hn] at h
    obtain ⟨i, -, h2⟩ := fst1_in hn
    rw [fitP] at h2
    split at h2
    · cases h2
    · cases h2; exact absurd rfl h
/-- a lesson by its number that can be -/
abbrev tOK (k : Nat → Int32) (day : Int32) (n code : Nat) : Prop := code / 10 < n ∧ code % 10 < n ∧ code / 10 ≠ code % 10 ∧ ¬ canF (k (code % 10)) day = 0
def tLe (k : Nat → Int32) (day : Int32) (code : Nat) (w : Nat → Int32) : Nat → Int32 := learnF k day (code / 10) (code % 10) w
-- two grids
def orO {α : Type} (a b : Option α) : Option α := match a with
  | some r => some r
  | none => b
theorem fst1_or {α : Type} (f : Nat → Option α) (n : Nat) : fst1 f (n + 1) = orO (fst1 f n) (f n) := rfl
theorem orO_n {α : Type} (a : Option α) : orO a none = a := by cases a <;> rfl
theorem orO_assoc {α : Type} (a b c : Option α) : orO (orO a b) c = orO a (orO b c) := by cases a <;> rfl
theorem fst1_add {α : Type} (f : Nat → Option α) (i : Nat) : ∀ k, fst1 f (i + k) = orO (fst1 f i) (fst1 (fun j => f (i + j)) k)
  | 0 => (orO_n _).symm
  | k + 1 => by rw [show i + (k + 1) = (i + k) + 1 by omega, fst1_or, fst1_add f i k, fst1_or, orO_assoc]
theorem fst1_cong {α : Type} {f g : Nat → Option α} {n : Nat} (h : ∀ j, j < n → f j = g j) : fst1 f n = fst1 g n := by
  induction n with
  | zero => rfl
  | succ n ih => rw [fst1_or, fst1_or, ih (fun j hj => h j (by omega)), h n (by omega)]
theorem fst1_tail {α : Type} {f : Nat → Option α} {n : Nat} : ∀ k, (∀ j, n ≤ j → j < n + k → f j = none) → fst1 f (n + k) = fst1 f n
  | 0, _ => rfl
  | k + 1, h => by rw [show n + (k + 1) = (n + k) + 1 by omega, fst1_or, fst1_tail k (fun j h1 h2 => h j h1 (by omega)), h (n + k) (by omega) (by omega), orO_n]
theorem fst1_cut {α : Type} {f : Nat → Option α} {n m : Nat} (hnm : n ≤ m) (h : ∀ j, n ≤ j → j < m → f j = none) : fst1 f m = fst1 f n := by
  obtain ⟨k, rfl⟩ : ∃ k, m = n + k := ⟨m - n, by omega⟩
  exact fst1_tail k h
theorem fst1_grid {α : Type} {F : Nat → Option α} {f : Nat → Nat → Option α} {n : Nat} (hn : n ≤ 7) (h : ∀ a b, b < 10 → F (10 * a + b) = if a < n ∧ b < n then f a b else none) : fst1 F 70 = fst1 (fun a => fst1 (f a) n) n := by
  have row : ∀ a, fst1 (fun j => F (10 * a + j)) 10 = if a < n then fst1 (f a) n else none := by
    intro a
    by_cases ha : a < n
    · rw [if_pos ha, fst1_cut (n := n) (by omega) (fun j h1 h2 => by rw [h a j h2, if_neg (by omega)])]
      exact fst1_cong (fun j hj => by rw [h a j (by omega), if_pos ⟨ha, hj⟩])
    · rw [if_neg ha, fst1_cut (n := 0) (by omega) (fun j h1 h2 => by rw [h a j h2, if_neg (by omega)])]
      rfl
  have rows : ∀ q, fst1 F (10 * q) = fst1 (fun a => if a < n then fst1 (f a) n else none) q := by
    intro q
    induction q with
    | zero => rfl
    | succ q ih => rw [show 10 * (q + 1) = 10 * q + 10 by omega, fst1_add, ih, row, fst1_or]
  rw [show (70 : Nat) = 10 * 7 from rfl, rows, fst1_cut (n := n) hn (fun j h1 h2 => by rw [if_neg (by omega)])]
  exact fst1_cong (fun j hj => by rw [if_pos hj])
def m1F (k : Nat → Int32) (day : Int32) (n : Nat) (x : Int32) (w : Nat → Int32) (c : Nat) : Option Nat := if tOK k day n c then (if wiF n x (tLe k day c w) = 0 then none else some c) else none
def m2F (k : Nat → Int32) (day : Int32) (n : Nat) (x : Int32) (w : Nat → Int32) (c : Nat) : Option (Nat × Nat) := if tOK k day n c then (match fst1 (m1F k day n x (tLe k day c w)) 70 with | some d => some (c, d) | none => none) else none
theorem fst1_map {α β : Type} {f : Nat → Option α} {g : α → β} : ∀ n, (fst1 f n).map g = fst1 (fun j => (f j).map g) n
  | 0 => rfl
  | n + 1 => by
    rw [fst1_or, fst1_or, ← fst1_map n]
    cases fst1 f n <;> rfl
theorem one_m1 {k : Nat → Int32} {day : Int32} {n : Nat} {x : Int32} {w : Nat → Int32} (hn : n ≤ 7) (h0 : wiF n x w = 0) : fst1 (oneP k day n x w) n = (fst1 (m1F k day n x w) 70).map nI := by
  rw [fst1_map]
  symm
  refine fst1_grid (f := oneQ k day n x w) hn (fun a b hb => ?_)
  have e1 : (10 * a + b) / 10 = a := by omega
  have e2 : (10 * a + b) % 10 = b := by omega
  simp only [m1F, tLe, tOK, e1, e2, oneQ]
  by_cases h : a < n ∧ b < n
  · rw [if_pos h]
    by_cases hab : a = b
    · rw [if_neg (fun z => z.2.2.1 hab), if_pos hab]; rfl
    · rw [if_neg hab]
      by_cases hc : canF (k b) day = 0
      · rw [if_neg (fun z => z.2.2.2 hc), ← learn_no hc, if_pos h0]; rfl
      · rw [if_pos ⟨h.1, h.2, hab, hc⟩]
        split <;> rfl
  · rw [if_neg h, if_neg (fun z => h ⟨z.1, z.2.1⟩)]; rfl
theorem one_none {k : Nat → Int32} {day : Int32} {n : Nat} {x : Int32} {w : Nat → Int32} (hn : n ≤ 7) (h0 : wiF n x w = 0) (h : fst1 (m1F k day n x w) 70 = none) : oneF k day n x w = -4 := by rw [oneF, one_m1 hn h0, h]; rfl
theorem one_some {k : Nat → Int32} {day : Int32} {n : Nat} {x : Int32} {w : Nat → Int32} {c : Nat} (hn : n ≤ 7) (h0 : wiF n x w = 0) (h : fst1 (m1F k day n x w) 70 = some c) : oneF k day n x w = nI c ∧ c < 70 := by
  refine ⟨by rw [oneF, one_m1 hn h0, h]; rfl, ?_⟩
  obtain ⟨i, h1, h2⟩ := fst1_in h
  rw [m1F] at h2
  split at h2
  · split at h2
    · cases h2
    · cases h2; exact h1
  · cases h2
/-- the two lessons that a pair of numbers tells -/
def twoG (k : Nat → Int32) (day : Int32) (n : Nat) (x : Int32) (w : Nat → Int32) (a b : Nat) : Option (Int32 × Int32) := if a = b then none else if oneF k day n x (learnF k day a b w) = -4 then none else some (nI (10 * a + b), oneF k day n x (learnF k day a b w))
theorem twoQ_none {k : Nat → Int32} {day : Int32} {n : Nat} {x : Int32} {w : Nat → Int32} {a : Nat} {s : Int32 × Int32} (hs : s.2 = -4) : ∀ q, (match fst1 (twoG k day n x w a) q with | some r => it (twoQ k day n x w a) q s = r ∧ ¬ r.2 = -4 | none => (it (twoQ k day n x w a) q s).2 = -4)
  | 0 => hs
  | q + 1 => by
    have ih := twoQ_none (k := k) (day := day) (n := n) (x := x) (w := w) (a := a) hs q
    rw [fst1_or, it_s]
    cases h : fst1 (twoG k day n x w a) q with
    | some r =>
      rw [h] at ih
      refine ⟨?_, ih.2⟩
      show twoQ k day n x w a q (it (twoQ k day n x w a) q s) = r
      rw [ih.1, twoQ]
      split
      · rfl
      · rw [if_neg ih.2]
    | none =>
      rw [h] at ih
      show (match twoG k day n x w a q with | some r => twoQ k day n x w a q (it (twoQ k day n x w a) q s) = r ∧ ¬ r.2 = -4 | none => (twoQ k day n x w a q (it (twoQ k day n x w a) q s)).2 = -4)
      rw [twoG, twoQ]
      by_cases e : a = q
      · rw [if_pos e, if_pos e]; exact ih
      · rw [if_neg e, if_neg e]
        replace ih : (it (twoQ k day n x w a) q s).2 = -4 := ih
        rw [if_pos ih]
        by_cases e2 : oneF k day n x (learnF k day a q w) = -4
        · rw [if_pos e2]; exact e2
        · rw [if_neg e2]; exact ⟨rfl, e2⟩
theorem twoQ_stay {k : Nat → Int32} {day : Int32} {n : Nat} {x : Int32} {w : Nat → Int32} {a : Nat} {s : Int32 × Int32} (hs : ¬ s.2 = -4) : ∀ q, it (twoQ k day n x w a) q s = s
  | 0 => rfl
  | q + 1 => by
    rw [it_s, twoQ_stay hs q, twoQ]
    by_cases e : a = q
    · rw [if_pos e]
    · rw [if_neg e, if_neg hs]
theorem twoP_none {k : Nat → Int32} {day : Int32} {n : Nat} {x : Int32} {w : Nat → Int32} {s : Int32 × Int32} (hs : s.2 = -4) : ∀ q, (match fst1 (fun a => fst1 (twoG k day n x w a) n) q with | some r => it (twoP k day n x w) q s = r ∧ ¬ r.2 = -4 | none => (it (twoP k day n x w) q s).2 = -4)
  | 0 => hs
  | q + 1 => by
    have ih := twoP_none (k := k) (day := day) (n := n) (x := x) (w := w) hs q
    rw [fst1_or, it_s]
    cases h : fst1 (fun a => fst1 (twoG k day n x w a) n) q with
    | some r =>
      rw [h] at ih
      refine ⟨?_, ih.2⟩
      rw [ih.1, twoP, twoQ_stay ih.2]
    | none =>
      rw [h] at ih
      exact twoQ_none ih n
theorem wi_learn0 {k : Nat → Int32} {day : Int32} {n : Nat} {x : Int32} {w : Nat → Int32} (hn : n ≤ 7) (h0 : wiF n x w = 0) (h1 : fst1 (m1F k day n x w) 70 = none) {a b : Nat} (ha : a < n) (hb : b < n) (hab : ¬ a = b) : wiF n x (learnF k day a b w) = 0 := by
  by_cases hc : canF (k b) day = 0
  · rw [← learn_no hc]; exact h0
  · by_cases hz : wiF n x (learnF k day a b w) = 0
    · exact hz
    · exfalso
      have h2 : m1F k day n x w (10 * a + b) = some (10 * a + b) := by
        have e1 : (10 * a + b) / 10 = a := by omega
        have e2 : (10 * a + b) % 10 = b := by omega
        simp only [m1F, tLe, tOK, e1, e2]
        rw [if_pos ⟨ha, hb, hab, hc⟩, if_neg hz]
      obtain ⟨r, hr⟩ := fst1_ex h2 (n := 70) (by omega)
      rw [h1] at hr
      cases hr
theorem two_m2 {k : Nat → Int32} {day : Int32} {n : Nat} {x : Int32} {w : Nat → Int32} (hn : n ≤ 7) (h0 : wiF n x w = 0) (h1 : fst1 (m1F k day n x w) 70 = none) : fst1 (fun a => fst1 (twoG k day n x w a) n) n = (fst1 (m2F k day n x w) 70).map (fun q => (nI q.1, nI q.2)) := by
  rw [fst1_map]
  have e9 : fst1 (fun j => (m2F k day n x w j).map (fun q => (nI q.1, nI q.2))) 70 = fst1 (fun a => fst1 (twoG k day n x w a) n) n := by
    refine fst1_grid (f := twoG k day n x w) hn (fun a b hb => ?_)
    have e1 : (10 * a + b) / 10 = a := by omega
    have e2 : (10 * a + b) % 10 = b := by omega
    simp only [m2F, tLe, tOK, e1, e2, twoG]
    by_cases h : a < n ∧ b < n
    · rw [if_pos h]
      by_cases hab : a = b
      · rw [if_neg (fun z => z.2.2.1 hab), if_pos hab]; rfl
      · rw [if_neg hab]
        have hz := wi_learn0 hn h0 h1 h.1 h.2 hab
        by_cases hc : canF (k b) day = 0
        · rw [if_neg (fun z => z.2.2.2 hc), ← learn_no hc, if_pos (one_none hn h0 h1)]; rfl
        · rw [if_pos ⟨h.1, h.2, hab, hc⟩]
          cases hd : fst1 (m1F k day n x (learnF k day a b w)) 70 with
          | none => rw [if_pos (one_none hn hz hd)]; rfl
          | some d =>
            obtain ⟨h3, h4⟩ := one_some hn hz hd
            rw [h3, if_neg (nI_ne4 (by omega))]; rfl
    · rw [if_neg h, if_neg (fun z => h ⟨z.1, z.2.1⟩)]; rfl
  exact e9.symm
theorem cure_0 {k : Nat → Int32} {day : Int32} {n : Nat} {x : Int32} {w : Nat → Int32} (h : ¬ wiF n x w = 0) : cureF k day n x w = (0, -4, -4) := by rw [cureF, if_neg h]
theorem cure_1 {k : Nat → Int32} {day : Int32} {n : Nat} {x : Int32} {w : Nat → Int32} {c : Nat} (hn : n ≤ 7) (h : wiF n x w = 0) (h1 : fst1 (m1F k day n x w) 70 = some c) : cureF k day n x w = (1, nI c, -4) := by
  obtain ⟨h2, h3⟩ := one_some hn h h1
  rw [cureF, if_pos h, h2, if_neg (nI_ne4 (by omega))]
theorem cure_2 {k : Nat → Int32} {day : Int32} {n : Nat} {x : Int32} {w : Nat → Int32} {c d : Nat} (hn : n ≤ 7) (h : wiF n x w = 0) (h1 : fst1 (m1F k day n x w) 70 = none) (h2 : fst1 (m2F k day n x w) 70 = some (c, d)) : cureF k day n x w = (2, nI c, nI d) := by
  have h3 := twoP_none (k := k) (day := day) (n := n) (x := x) (w := w) (s := (-4, -4)) rfl n
  rw [two_m2 hn h h1, h2] at h3
  replace h3 : it (twoP k day n x w) n (-4, -4) = (nI c, nI d) ∧ ¬ nI d = -4 := h3
  rw [cureF, if_pos h, if_pos (one_none hn h h1), twoF, h3.1, if_neg h3.2]
theorem cure_n {k : Nat → Int32} {day : Int32} {n : Nat} {x : Int32} {w : Nat → Int32} (hn : n ≤ 7) (h : wiF n x w = 0) (h1 : fst1 (m1F k day n x w) 70 = none) (h2 : fst1 (m2F k day n x w) 70 = none) : (cureF k day n x w).1 = -4 := by
  have h3 := twoP_none (k := k) (day := day) (n := n) (x := x) (w := w) (s := (-4, -4)) rfl n
  rw [two_m2 hn h h1, h2] at h3
  replace h3 : (it (twoP k day n x w) n (-4, -4)).2 = -4 := h3
  rw [cureF, if_pos h, if_pos (one_none hn h h1), twoF, if_pos h3]
theorem abs_sym {n a b : Nat} {w : Nat → Int32} (hB : Bd n w) (ha : a < n) (hb : b < n) : absF (w a - w b) = apartF w b a := by
  have e1 := apart_toInt hB ha hb
  have e2 := apart_toInt hB hb ha
  have h1 := Bd_lo hB ha
  have h2 := Bd_hi hB ha
  have h3 := Bd_lo hB hb
  have h4 := Bd_hi hB hb
  rw [apartF]
  apply Int32.toInt_inj.mp
  rw [absF_toInt (by omega), absF_toInt (by omega), e1, e2]
  split <;> split <;> omega
theorem apart_lt {n a b : Nat} {w : Nat → Int32} (hB : Bd n w) (ha : a < n) (hb : b < n) : apartF w a b < 9999 := by
  have e1 := apart_toInt hB ha hb
  have h1 := Bd_lo hB ha
  have h2 := Bd_hi hB ha
  have h3 := Bd_lo hB hb
  have h4 := Bd_hi hB hb
  rw [apartF, Int32.lt_iff_toInt_lt, absF_toInt (by omega), e1, show (9999 : Int32).toInt = 9999 from by decide]
  split <;> omega
theorem chi_s1 {w : Nat → Int32} {c i : Nat} {s : Int32 × Int32} (h : i = c) : chiS w c i s = s := by rw [chiS, if_pos h]
theorem chi_s2 {w : Nat → Int32} {c i : Nat} {s : Int32 × Int32} {few : Int32} (hf : few = if s.1 = -4 then 9999 else s.2) (h : ¬ i = c) (hlt : apartF w c i < few) : chiS w c i s = (nI i, apartF w c i) := by
  rw [chiS, if_neg h]
  by_cases e : s.1 = -4
  · rw [if_pos e]
  · rw [if_neg e, if_pos (by rw [hf, if_neg e] at hlt; exact hlt)]
theorem chi_s3 {w : Nat → Int32} {c i : Nat} {s : Int32 × Int32} {few : Int32} (hf : few = if s.1 = -4 then 9999 else s.2) (h : ¬ i = c) (h9 : apartF w c i < 9999) (hlt : ¬ apartF w c i < few) : chiS w c i s = s := by
  rw [chiS, if_neg h]
  by_cases e : s.1 = -4
  · rw [hf, if_pos e] at hlt
    exact absurd h9 hlt
  · rw [if_neg e, if_neg (by rw [hf, if_neg e] at hlt; exact hlt)]
