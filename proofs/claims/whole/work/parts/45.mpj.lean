-- the model: ring
theorem has_bit : ∀ t, t < 256 → ∀ c, c < 8 → (hasF (nI t) c = 0 ↔ t.testBit c = false) := by decide +kernel
theorem fa_le : ∀ m, m ≤ 6 → fa m ≤ 720 ∧ fa m ≠ 0 := by decide
theorem fa_st {un i : Nat} (hi : 1 ≤ i) (h : un = fa (i - 1)) : un * i = fa (i + 1 - 1) := by
  obtain ⟨j, rfl⟩ : ∃ j, i = j + 1 := ⟨i - 1, by omega⟩
  rw [h, Nat.add_sub_cancel, Nat.add_sub_cancel, fa, Nat.mul_comm]
theorem fa_2 : ∀ n, n < 8 → 1 ≤ n → fa (2 + (n - 3) - 1) = fa (n - 1 - 1) ∧ fa (2 + (n - 2) - 1) = waysR n := by decide
theorem fa_dn : ∀ m, m ≤ 6 → fa m / m = (if m = 0 then 0 else fa (m - 1)) := by decide
theorem rg_1 : ∀ n, n < 8 → ∀ code, code < waysR n → ∀ k, k < n → 1 ≤ k → (code % fa (n - k)) / fa (n - 1 - k) = dgR n code (k - 1) ∧ (code % fa (n - k)) % fa (n - 1 - k) = code % fa (n - (k + 1)) := by decide +kernel
theorem fa_nx {n k un : Nat} (hn : n ≤ 7) (h : un = fa (n - 1 - k)) (hk : ¬ n - 1 - k = 0) : un / (n - 1 - k) = fa (n - 1 - (k + 1)) := by
  rw [h, fa_dn _ (by omega), if_neg hk, show n - 1 - k - 1 = n - 1 - (k + 1) by omega]
theorem fa_nz {n k un : Nat} (h : un = fa (n - 1 - k)) (hk : n - 1 - k = 0) : un / 1 = fa (n - 1 - (k + 1)) := by
  rw [Nat.div_one, h, hk, show n - 1 - (k + 1) = 0 by omega]
theorem free_lt {t q p : Nat} (h : fst1 (freeP t q) p = none) (hf : freeN t q < 8) : p < 8 := by
  rcases Nat.lt_or_ge p 8 with z | z
  · exact z
  · exfalso
    have h8 : fst1 (freeP t q) 8 = none := by
      cases hc : fst1 (freeP t q) 8 with
      | none => rfl
      | some r =>
        have h2 := fst1_st (k := p - 8) hc
        rw [show 8 + (p - 8) = p by omega, h] at h2
        cases h2
    rw [freeN, h8] at hf
    exact absurd hf (by decide)
theorem fr_T {t qq pl D : Nat} (h : qq + cnt (fun j => !t.testBit j) pl = D) (hb : t.testBit pl = true) : qq - 0 + cnt (fun j => !t.testBit j) (pl + 1) = D := by
  rw [cnt_s, if_neg (by rw [hb]; decide)]; exact h
theorem fr_F {t qq pl D : Nat} (h : qq + cnt (fun j => !t.testBit j) pl = D) (hb : t.testBit pl = false) (hq : 0 < qq) : qq - 1 + cnt (fun j => !t.testBit j) (pl + 1) = D := by
  rw [cnt_s, if_pos (by rw [hb]; decide)]; omega
theorem fp_T {t pl D : Nat} (hb : t.testBit pl = true) : freeP t D pl = none := by rw [freeP, if_pos hb]
theorem fp_F {t qq pl D : Nat} (h : qq + cnt (fun j => !t.testBit j) pl = D) (hb : t.testBit pl = false) (hq : 0 < qq) : freeP t D pl = none := by
  rw [freeP, if_neg (by rw [hb]; decide), if_neg (by omega)]
theorem fp_end {t qq pl D : Nat} (h : qq + cnt (fun j => !t.testBit j) pl = D) (hfr : fst1 (freeP t D) pl = none) (hb : t.testBit pl = false) (hq : ¬ 0 < qq) (h8 : pl < 8) : pl = freeN t D := by
  rw [freeN, fst1_at (r := pl) hfr (by rw [freeP, if_neg (by rw [hb]; decide), if_pos (by omega)]) h8]
  rfl
theorem or_step {n code k pl t : Nat} {o1 : Nat → Int32} (hk : 1 ≤ k) (ht : t = tk (dgR n code) (k - 1)) (hp : pl = freeN t (dgR n code (k - 1))) (h : ∀ j, j < k → o1 j = nI (ordN (dgR n code) j)) : ∀ j, j < k + 1 → upd o1 k (nI pl) j = nI (ordN (dgR n code) j) := by
  intro j hj
  by_cases e : j = k
  · obtain ⟨k', rfl⟩ : ∃ k', k = k' + 1 := ⟨k - 1, by omega⟩
    rw [e, pk_us, hp, ht]
    rfl
  · rw [pk_un e]
    exact h j (by omega)
theorem tog_pos {n : Nat} {w : Nat → Int32} (hn : n ≤ 7) (hB : Bd n w) : ¬ togF n w < 0 := by
  have key : ∀ q, q ≤ n → 0 ≤ (togF q w).toInt ∧ (togF q w).toInt ≤ 600 * q := by
    intro q
    induction q with
    | zero => intro _; exact (by decide : 0 ≤ (0 : Int32).toInt ∧ (0 : Int32).toInt ≤ 600 * ((0 : Nat) : Int))
    | succ q ih =>
      intro hq
      obtain ⟨h1, h2⟩ := ih (by omega)
      have a1 := Bd_lo hB (show q < n by omega)
      have a2 := Bd_hi hB (show q < n by omega)
      rw [togF, it_s, ← togF]
      have e : 0 ≤ (absF (w q)).toInt ∧ (absF (w q)).toInt ≤ 600 := by
        rw [absF]
        split
        · rename_i z; rw [Int32.le_iff_toInt_le, Int32.toInt_zero] at z; omega
        · rename_i z
          rw [Int32.le_iff_toInt_le, Int32.toInt_zero] at z
          rw [Int32.toInt_sub, Int32.toInt_zero, Int.bmod_eq_of_le (by omega) (by omega)]
          omega
      rw [add_toInt (by omega) (by omega)]
      omega
  rw [Int32.lt_iff_toInt_lt, Int32.toInt_zero]
  have := (key n (Nat.le_refl _)).1
  omega
theorem Bd_ring {k : Nat → Int32} {day : Int32} {od : Nat → Nat} {n : Nat} {w : Nat → Int32} (hB : Bd n w) : ∀ q, Bd n (ringW k day od q w)
  | 0 => hB
  | q + 1 => by
    rw [ringW_s]
    split
    · exact Bd_ring hB q
    · exact Bd_learn (Bd_ring hB q)
theorem best_pos {k : Nat → Int32} {day : Int32} {n : Nat} {w : Nat → Int32} (hn : n ≤ 7) (hB : Bd n w) : ∀ y, (bestR k day n w y).1 = -4 ∨ ¬ (bestR k day n w y).1 < 0
  | 0 => Or.inl rfl
  | y + 1 => by
    show offR _ _ _ _ = -4 ∨ ¬ offR _ _ _ _ < 0
    rw [offR]
    split
    · exact Or.inr (tog_pos hn (Bd_ring hB n))
    · exact best_pos hn hB y
theorem br_b {sm os : Int32} (hp : sm = -4 ∨ ¬ sm < 0) (h : sm < 0 ∨ os < sm) : betterF sm os = true := by
  rcases h with h | h
  · rcases hp with z | z
    · rw [betterF, z]; simp
    · exact absurd h z
  · rw [betterF]; simp [h]
theorem br_n {sm os : Int32} (h1 : ¬ sm < 0) (h : ¬ os < sm) : ¬ betterF sm os = true := by
  rw [betterF]
  intro z
  simp only [Bool.or_eq_true, decide_eq_true_eq] at z
  rcases z with z | z
  · exact h1 (by rw [z]; decide)
  · exact h z
theorem bR_T {k : Nat → Int32} {day : Int32} {n y : Nat} {w wr : Nat → Int32} {sm : Int32} (hs : sm = (bestR k day n w y).1) (hr : wr = ringW k day (ordN (dgR n y)) n w) (hb : betterF sm (togF n wr) = true) : togF n wr = (bestR k day n w (y + 1)).1 ∧ ∀ j, (bestR k day n w (y + 1)).2 j = ordN (dgR n y) j := by
  subst hr
  rw [hs] at hb
  constructor
  · show _ = offR _ _ _ _
    rw [offR, if_pos hb]
  · intro j
    show (offR (bestR k day n w y).1 (togF n (ringW k day (ordN (dgR n y)) n w)) (bestR k day n w y).2 (ordN (dgR n y))) j = _
    rw [offR, if_pos hb]
theorem bR_F {k : Nat → Int32} {day : Int32} {n y : Nat} {w wr : Nat → Int32} {sm : Int32} (hs : sm = (bestR k day n w y).1) (hr : wr = ringW k day (ordN (dgR n y)) n w) (hb : ¬ betterF sm (togF n wr) = true) : sm = (bestR k day n w (y + 1)).1 ∧ (bestR k day n w (y + 1)).2 = (bestR k day n w y).2 := by
  subst hr
  rw [hs] at hb
  constructor
  · rw [hs]
    show _ = offR _ _ _ _
    rw [offR, if_neg hb]
  · show offR _ _ _ _ = _
    rw [offR, if_neg hb]
theorem bR_y {k : Nat → Int32} {day : Int32} {n y : Nat} {w : Nat → Int32} {sm os : Int32} (hs : sm = (bestR k day n w y).1) (hb : ¬ betterF sm os = true) : 0 < y := by
  cases y with
  | zero => exact absurd (by rw [hs, bestR, betterF]; simp) hb
  | succ y => exact Nat.succ_pos _
