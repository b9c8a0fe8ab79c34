-- the class's reading and the model's
theorem rdN_ind {tf : Nat → Nat} : ∀ {d p fig num to : Nat} {nu nu' : Nat → Nat}, (∀ j, j < to → nu j = nu' j) → (rdN tf d p fig num to nu).1 = (rdN tf d p fig num to nu').1 ∧ (rdN tf d p fig num to nu).2.1 = (rdN tf d p fig num to nu').2.1 ∧ ∀ j, j < (rdN tf d p fig num to nu').2.1 → (rdN tf d p fig num to nu).2.2 j = (rdN tf d p fig num to nu').2.2 j
  | 0, p, fig, num, to, nu, nu', h => by rw [rdN, rdN]; exact ⟨rfl, rfl, h⟩
  | d + 1, p, fig, num, to, nu, nu', h => by
    have h2 : ∀ j, j < to + 1 → updN nu to num j = updN nu' to num j := by
      intro j hj
      rw [updN, updN]
      by_cases e : j = to
      · rw [if_pos e, if_pos e]
      · rw [if_neg e, if_neg e]; exact h j (by omega)
    rw [rdN, rdN]
    by_cases c1 : tf p < 48 ∨ 57 < tf p
    · rw [if_pos c1, if_pos c1]
      by_cases c2 : tf p = 44 ∨ tf p = 59
      · rw [if_pos c2, if_pos c2]
        by_cases c3 : fig < 1 ∨ 3 ≤ to
        · rw [if_pos c3, if_pos c3]; exact ⟨rfl, rfl, h⟩
        · rw [if_neg c3, if_neg c3]
          by_cases c4 : tf p = 59
          · rw [if_pos c4, if_pos c4]; exact ⟨rfl, rfl, h2⟩
          · rw [if_neg c4, if_neg c4]; exact rdN_ind h2
      · rw [if_neg c2, if_neg c2]; exact ⟨rfl, rfl, h⟩
    · rw [if_neg c1, if_neg c1]
      by_cases c2 : 3 < fig + 1
      · rw [if_pos c2, if_pos c2]; exact ⟨rfl, rfl, h⟩
      · rw [if_neg c2, if_neg c2]; exact rdN_ind h
def pcN (t : Nat) : Nat := cnt (fun b => t.testBit b) 7
def sumN (n : Nat) (B : Nat → Nat) : Nat := it (fun c s => s + pcN (B c)) n 0
theorem sumN_s (n : Nat) (B : Nat → Nat) : sumN (n + 1) B = sumN n B + pcN (B n) := rfl
theorem bits_pc : ∀ t, t < 128 → bitsM (nI t) = nI (pcN t) := by decide +kernel
theorem pc_or : ∀ t, t < 128 → ∀ b, b < 7 → t.testBit b = false → pcN (t ||| 2 ^ b) = pcN t + 1 := by decide +kernel
theorem or_same : ∀ t, t < 128 → ∀ b, b < 7 → t.testBit b = true → t ||| 2 ^ b = t := by decide +kernel
theorem or_lt : ∀ t, t < 128 → ∀ b, b < 7 → t ||| 2 ^ b < 128 := by decide +kernel
theorem or_bit : ∀ t, t < 128 → ∀ b, b < 7 → ∀ c, c < 7 → (t ||| 2 ^ b).testBit c = (t.testBit c || decide (c = b)) := by decide +kernel
theorem bit_hi {t c : Nat} (ht : t < 128) (hc : 7 ≤ c) : t.testBit c = false := Nat.testBit_lt_two_pow (Nat.lt_of_lt_of_le ht (Nat.pow_le_pow_right (n := 2) (by decide) hc))
theorem sumN_c {A B : Nat → Nat} {n : Nat} (h : ∀ j, j < n → A j = B j) : sumN n A = sumN n B := by
  induction n with
  | zero => rfl
  | succ n ih => rw [sumN_s, sumN_s, ih (fun j hj => h j (by omega)), h n (by omega)]
theorem sumN_u {B : Nat → Nat} {a v n : Nat} (h : a < n) : sumN n (updN B a v) + pcN (B a) = sumN n B + pcN v := by
  induction n with
  | zero => omega
  | succ n ih =>
    rw [sumN_s, sumN_s]
    by_cases e : a = n
    · subst e
      rw [sumN_c (A := updN B a v) (B := B) (fun j hj => by rw [updN, if_neg (by omega)]), show updN B a v a = v from by rw [updN, if_pos rfl]]
      omega
    · have := ih (by omega)
      rw [show updN B a v n = B n from by rw [updN, if_neg (by omega)]]
      omega
theorem sumN_le {B : Nat → Nat} : ∀ n, sumN n B ≤ 7 * n
  | 0 => Nat.le_refl _
  | n + 1 => by
    have h := sumN_le (B := B) n
    have h2 : pcN (B n) ≤ 7 := cnt_le _ 7
    rw [sumN_s]; omega
theorem twoM_N {n : Nat} {wb : Nat → Int32} {B : Nat → Nat} (hn : n ≤ 7) (h : ∀ j, j < n → wb j = nI (B j) ∧ B j < 128) : twoM n wb = nI (sumN n B / 2) := by
  have key : ∀ q, q ≤ n → it (fun c s => s + bitsM (wb c)) q 0 = nI (sumN q B) := by
    intro q
    induction q with
    | zero => intro _; rfl
    | succ q ih =>
      intro hq
      rw [it_s, ih (by omega), sumN_s, (h q (by omega)).1, bits_pc _ (h q (by omega)).2, nI_add' rfl rfl]
  have h49 := sumN_le (B := B) n
  rw [twoM, key n (Nat.le_refl _), show (2 : Int32) = nI 2 from rfl, div_nI (by omega) (by omega) (by omega)]
theorem bitF_N {t b : Nat} (ht : t < 128) (hb : b < 7) : bitF (nI t) b = nI (t ||| 2 ^ b) := bitor t (by omega) b (by omega)
