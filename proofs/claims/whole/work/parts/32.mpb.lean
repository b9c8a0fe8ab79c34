-- NOON by putting in order
theorem fst1_ex {α : Type} {f : Nat → Option α} {i : Nat} {r : α} (hf : f i = some r) : ∀ {n : Nat}, i < n → ∃ r', fst1 f n = some r'
  | 0, h => absurd h (Nat.not_lt_zero _)
  | n + 1, h => by
    cases hn : fst1 f n with
    | some r' => exact ⟨r', fst1_st (k := 1) hn⟩
    | none =>
      by_cases e : i = n
      · subst e
        exact ⟨r, by rw [fst1_s hn, hf]⟩
      · obtain ⟨r', h'⟩ := fst1_ex hf (n := n) (by omega)
        rw [hn] at h'
        cases h'
theorem cnt_congr {p q : Nat → Bool} {n : Nat} (h : ∀ j, j < n → p j = q j) : cnt p n = cnt q n := by
  induction n with
  | zero => rfl
  | succ n ih => rw [cnt_s, cnt_s, ih (fun j hj => h j (by omega)), h n (by omega)]
theorem cnt_mono (p : Nat → Bool) (n : Nat) : ∀ k, cnt p n ≤ cnt p (n + k)
  | 0 => Nat.le_refl _
  | k + 1 => by
    have h := cnt_mono p n k
    rw [show n + (k + 1) = (n + k) + 1 by omega, cnt_s]
    split <;> omega
theorem cnt_no {p : Nat → Bool} {k : Nat} : ∀ d, (∀ j, k ≤ j → j < k + d → p j = false) → cnt p (k + d) ≤ k
  | 0, _ => cnt_le p k
  | d + 1, h => by
    rw [show k + (d + 1) = (k + d) + 1 by omega, cnt_s, if_neg (by rw [h (k + d) (by omega) (by omega)]; decide)]
    exact cnt_no d (fun j h1 h2 => h j h1 (by omega))
theorem cnt_two {p q : Nat → Bool} : ∀ k, (∀ j, j < k → p j = true ∨ q j = true) → k ≤ cnt p k + cnt q k
  | 0, _ => Nat.zero_le _
  | k + 1, h => by
    have h1 := cnt_two k (fun j hj => h j (by omega))
    rw [cnt_s, cnt_s]
    rcases h k (by omega) with h2 | h2
    · rw [if_pos h2]; split <;> omega
    · rw [if_pos h2]; split <;> omega
theorem cnt_pos {p : Nat → Bool} : ∀ {n : Nat}, 0 < cnt p n → ∃ j, j < n ∧ p j = true
  | 0, h => absurd h (Nat.not_lt_zero _)
  | n + 1, h => by
    rw [cnt_s] at h
    by_cases e : p n = true
    · exact ⟨n, by omega, e⟩
    · rw [if_neg e] at h
      obtain ⟨j, h1, h2⟩ := cnt_pos h
      exact ⟨j, by omega, h2⟩
theorem cnt_sub {p q r : Nat → Bool} : ∀ n, (∀ j, j < n → p j = true → r j = true) → (∀ j, j < n → q j = true → r j = true) → (∀ j, j < n → ¬ (p j = true ∧ q j = true)) → cnt p n + cnt q n ≤ cnt r n
  | 0, _, _, _ => Nat.le_refl _
  | n + 1, h1, h2, h3 => by
    have h := cnt_sub n (fun j hj => h1 j (by omega)) (fun j hj => h2 j (by omega)) (fun j hj => h3 j (by omega))
    rw [cnt_s, cnt_s, cnt_s]
    by_cases e1 : p n = true
    · have e2 : ¬ q n = true := fun z => h3 n (by omega) ⟨e1, z⟩
      rw [if_pos e1, if_neg e2, if_pos (h1 n (by omega) e1)]
      omega
    · rw [if_neg e1]
      by_cases e2 : q n = true
      · rw [if_pos e2, if_pos (h2 n (by omega) e2)]
        omega
      · rw [if_neg e2]
        split <;> omega
/-- in order -/
def ordd (s : Nat → Int32) (n : Nat) : Prop := ∀ i j, i < j → j < n → s i ≤ s j
theorem i_le_trans {a b c : Int32} (h1 : a ≤ b) (h2 : b ≤ c) : a ≤ c := by
  rw [Int32.le_iff_toInt_le] at *; omega
theorem i_lt_le {a b : Int32} (h : a < b) : a ≤ b := by
  rw [Int32.lt_iff_toInt_lt] at h; rw [Int32.le_iff_toInt_le]; omega
theorem ins_ord {s s' : Nat → Int32} {x : Int32} {c at_ : Nat} (hs : ordd s c) (h1 : ∀ j, j < at_ → s' j = s j) (h2 : s' at_ = x) (h3 : ∀ j, at_ < j → j ≤ c → s' j = s (j - 1)) (hat : at_ ≤ c) (hgt : ∀ j, at_ ≤ j → j < c → x < s j) (hle : at_ = 0 ∨ s (at_ - 1) ≤ x) : ordd s' (c + 1) := by
  intro i j hij hj
  by_cases ea : j < at_
  · rw [h1 j ea, h1 i (by omega)]
    exact hs i j hij (by omega)
  · by_cases eb : j = at_
    · subst eb
      rw [h2, h1 i hij]
      rcases hle with h0 | h0
      · omega
      · by_cases e : i = j - 1
        · rw [e]; exact h0
        · exact i_le_trans (hs i (j - 1) (by omega) (by omega)) h0
    · rw [h3 j (by omega) (by omega)]
      by_cases ei : i < at_
      · rw [h1 i ei]
        by_cases e : i = j - 1
        · omega
        · exact hs i (j - 1) (by omega) (by omega)
      · by_cases e : i = at_
        · rw [e, h2]
          exact i_lt_le (hgt (j - 1) (by omega) (by omega))
        · rw [h3 i (by omega) (by omega)]
          exact hs (i - 1) (j - 1) (by omega) (by omega)
theorem ins_cnt {s s' : Nat → Int32} {x : Int32} {c at_ : Nat} (h1 : ∀ j, j < at_ → s' j = s j) (h2 : s' at_ = x) (h3 : ∀ j, at_ < j → j ≤ c → s' j = s (j - 1)) (hat : at_ ≤ c) (p : Int32 → Bool) : cnt (fun j => p (s' j)) (c + 1) = cnt (fun j => p (s j)) c + if p x = true then 1 else 0 := by
  have key : ∀ k, at_ + k ≤ c → cnt (fun j => p (s' j)) (at_ + k + 1) = cnt (fun j => p (s j)) (at_ + k) + if p x = true then 1 else 0 := by
    intro k
    induction k with
    | zero =>
      intro _
      rw [Nat.add_zero, cnt_s, cnt_congr (q := fun j => p (s j)) (fun j hj => by show p (s' j) = p (s j); rw [h1 j hj]), h2]
      by_cases e : p x = true <;> simp [e]
    | succ k ih =>
      intro hk
      rw [cnt_s, show at_ + (k + 1) = (at_ + k) + 1 by omega, ih (by omega), cnt_s, h3 (at_ + k + 1) (by omega) (by omega), Nat.add_sub_cancel]
      split <;> split <;> omega
  have := key (c - at_) (by omega)
  rw [show at_ + (c - at_) = c by omega] at this
  exact this
theorem mid_of {n : Nat} {w s : Nat → Int32} (hn : 1 ≤ n) (hs : ordd s n) (hc : ∀ p : Int32 → Bool, cnt (fun j => p (s j)) n = cnt (fun j => p (w j)) n) : s ((n - 1) / 2) = midF n w := by
  generalize hm : s ((n - 1) / 2) = m
  have hk : (n - 1) / 2 < n := by omega
  have lo : cnt (fun j => decide (w j < m)) n ≤ (n - 1) / 2 := by
    rw [← hc (fun v => decide (v < m))]
    obtain ⟨d, hd⟩ : ∃ d, n = (n - 1) / 2 + d := ⟨n - (n - 1) / 2, by omega⟩
    generalize (n - 1) / 2 = k at *
    subst hd
    refine cnt_no d (fun j h1 h2 => ?_)
    show decide (s j < m) = false
    rw [decide_eq_false_iff_not, ← hm]
    intro z
    by_cases e : k = j
    · rw [e] at z
      rw [Int32.lt_iff_toInt_lt] at z; omega
    · have h3 := hs k j (by omega) h2
      rw [Int32.lt_iff_toInt_lt] at z
      rw [Int32.le_iff_toInt_le] at h3
      omega
  have hi : (n - 1) / 2 < cnt (fun j => decide (w j < m)) n + cnt (fun j => decide (w j = m)) n := by
    rw [← hc (fun v => decide (v < m)), ← hc (fun v => decide (v = m))]
    obtain ⟨d, hd⟩ : ∃ d, n = ((n - 1) / 2 + 1) + d := ⟨n - ((n - 1) / 2 + 1), by omega⟩
    generalize (n - 1) / 2 = k at *
    subst hd
    have h1 := cnt_two (p := fun j => decide (s j < m)) (q := fun j => decide (s j = m)) (k + 1) (fun j hj => by
      show decide (s j < m) = true ∨ decide (s j = m) = true
      rw [decide_eq_true_iff, decide_eq_true_iff, ← hm]
      by_cases e : j = k
      · right; rw [e]
      · have h3 := hs j k (by omega) (by omega)
        rw [Int32.le_iff_toInt_le] at h3
        rw [Int32.lt_iff_toInt_lt, ← Int32.toInt_inj]
        omega)
    have h2 := cnt_mono (fun j => decide (s j < m)) (k + 1) d
    have h3 := cnt_mono (fun j => decide (s j = m)) (k + 1) d
    show k < cnt (fun j => decide (s j < m)) (k + 1 + d) + cnt (fun j => decide (s j = m)) (k + 1 + d)
    omega
  have ex : ∃ c, c < n ∧ w c = m := by
    obtain ⟨c, h1, h2⟩ := cnt_pos (p := fun j => decide (w j = m)) (n := n) (by omega)
    exact ⟨c, h1, of_decide_eq_true h2⟩
  obtain ⟨c, hc1, hc2⟩ := ex
  have hP : midP n w c = some m := by
    rw [midP, hc2, if_pos ⟨lo, hi⟩]
  obtain ⟨r, hr⟩ := fst1_ex hP hc1
  rw [midF, hr]
  obtain ⟨c', h1, h2⟩ := fst1_in hr
  rw [midP] at h2
  split at h2
  · rename_i h3
    cases h2
    show m = w c'
    generalize w c' = v at *
    rcases Int.lt_trichotomy m.toInt v.toInt with h | h | h
    · exfalso
      have h4 := cnt_sub (p := fun j => decide (w j < m)) (q := fun j => decide (w j = m)) (r := fun j => decide (w j < v)) n
        (fun j _ z => by
          have z1 := of_decide_eq_true z
          rw [decide_eq_true_iff, Int32.lt_iff_toInt_lt]
          rw [Int32.lt_iff_toInt_lt] at z1
          omega)
        (fun j _ z => by
          have z1 := of_decide_eq_true z
          rw [decide_eq_true_iff, z1, Int32.lt_iff_toInt_lt]
          exact h)
        (fun j _ z => by
          have z1 := of_decide_eq_true z.1
          have z2 := of_decide_eq_true z.2
          rw [z2, Int32.lt_iff_toInt_lt] at z1
          omega)
      omega
    · exact Int32.toInt_inj.mp h
    · exfalso
      have h4 := cnt_sub (p := fun j => decide (w j < v)) (q := fun j => decide (w j = v)) (r := fun j => decide (w j < m)) n
        (fun j _ z => by
          have z1 := of_decide_eq_true z
          rw [decide_eq_true_iff, Int32.lt_iff_toInt_lt]
          rw [Int32.lt_iff_toInt_lt] at z1
          omega)
        (fun j _ z => by
          have z1 := of_decide_eq_true z
          rw [decide_eq_true_iff, z1, Int32.lt_iff_toInt_lt]
          exact h)
        (fun j _ z => by
          have z1 := of_decide_eq_true z.1
          have z2 := of_decide_eq_true z.2
          rw [z2, Int32.lt_iff_toInt_lt] at z1
          omega)
      omega
  · cases h2
theorem Bd_gain {g : Nat → Int32} {n : Nat} {w : Nat → Int32} : Bd n (gainF g n w) := by
  intro j hj
  have key : ∀ k, j < k → clampF (gainF g k w j) = gainF g k w j := by
    intro k
    induction k with
    | zero => intro h; omega
    | succ k ih =>
      intro h
      rw [gainF, it_s, ← gainF]
      by_cases e : j = k
      · rw [e, pk_us, clampF_cl]
      · rw [pk_un e]
        exact ih (by omega)
  exact key n hj
theorem Bd_day {k wb : Nat → Int32} {ld te pu : Nat → Nat} {n m : Nat} {g : Nat → Int32} {carry day : Int32} {w : Nat → Int32} : Bd n (dayF k wb ld te pu n m g carry day w) := Bd_gain
theorem and1 (y : Int32) : y &&& 1 = 0 ∨ y &&& 1 = 1 := by
  have h : ∀ b : BitVec 32, b &&& 1#32 = 0#32 ∨ b &&& 1#32 = 1#32 := by
    intro b
    rw [BitVec.and_one_eq_setWidth_ofBool_getLsbD]
    cases b.getLsbD 0
    · left; decide
    · right; decide
  rcases h y.toBitVec with h | h
  · left; exact Int32.toBitVec_inj.mp (by rw [Int32.toBitVec_and]; exact h)
  · right; exact Int32.toBitVec_inj.mp (by rw [Int32.toBitVec_and]; exact h)
theorem and1_has (x : Int32) (b : Nat) : (x >>> (nI b &&& 31)) &&& 1 = hasF x b := by
  rw [hasF]
  rcases and1 (x >>> (nI b &&& 31)) with h | h
  · rw [if_neg (by rw [h]; decide), h]
  · rw [if_pos h, h]
def bitsM (s : Int32) : Int32 := it (fun k n => n + ((s >>> (nI k &&& 31)) &&& 1)) 7 0
theorem bits_eq : ∀ t, t < 128 → bitsM (nI t) = bcF (nI t) := by decide +kernel
theorem inF_bad {v lo hi : Int32} (h : v.toInt < lo.toInt ∨ hi.toInt < v.toInt) : inF v lo hi = 0 := inF_0 (fun z => by
  rcases h with h | h
  · exact z.1 (Int32.lt_iff_toInt_lt.mpr h)
  · exact z.2 (Int32.lt_iff_toInt_lt.mpr h))
theorem oilM1 {g : Int32} (h : ¬ g = 0) (h2 : 0 < g) : g + -1 = oilF g := by rw [oilF, if_neg h, if_pos h2, ← Int32.sub_eq_add_neg]
theorem oilM2 {g : Int32} (h : ¬ g = 0) (h2 : ¬ 0 < g) : g + 1 = oilF g := by rw [oilF, if_neg h, if_neg h2]
