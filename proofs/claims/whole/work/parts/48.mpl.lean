-- the model: pairs, steps
def uM (j : Nat) : Nat := if j = 0 then 15 else if j = 1 then 3 else 1
def chM (j : Nat) : Int32 := 7 - 2 * nI j
def lM (code j : Nat) : Nat := if j = 0 then code else if j = 1 then code % 15 else if j = 2 then code % 3 else 0
theorem lu_M : ∀ code, code < 105 → ∀ j, j < 4 → lM code j < 1000 ∧ uM j ≤ 15 ∧ uM j ≠ 0 ∧ lM code j / uM j = qM code j ∧ lM code j % uM j = lM code (j + 1) ∧ qM code j < 8 := by decide +kernel
theorem ch_dec : ∀ j, j < 4 → chM j + Int32.ofInt (-2) = chM (j + 1) := by decide +kernel
theorem un_T : ∀ j, j < 4 → chM (j + 1) ≤ 1 → uM j / 1 = uM (j + 1) := by decide +kernel
theorem un_F : ∀ j, j < 4 → ¬ chM (j + 1) ≤ 1 → nI (uM j) / chM (j + 1) = nI (uM (j + 1)) ∧ ¬ chM (j + 1) = 0 := by decide +kernel
theorem or128 : ∀ t, t < 256 → nI t ||| 128 = nI (t ||| 128) := by decide +kernel
theorem lo_n {n t i : Nat} (h : fst1 (loP t) i = none) (e : i = n) : i = loM n t := by
  subst e
  rw [loM, h]; rfl
theorem lo_i {n t i : Nat} (h : fst1 (loP t) i = none) (hi : i < n) (hb : t.testBit i = false) : i = loM n t := by
  rw [loM, fst1_at (r := i) h (by rw [loP, if_neg (by rw [hb]; decide)]) hi]; rfl
theorem lo_s {t i : Nat} (h : fst1 (loP t) i = none) (hb : t.testBit i = true) : fst1 (loP t) (i + 1) = none := fst1_n h (by rw [loP, if_pos hb])
theorem hP_0 (t i : Nat) : ∀ c, c ≤ i + 1 → cnt (hP t i) c = 0
  | 0, _ => rfl
  | c + 1, h => by
    rw [cnt_s, if_neg (by rw [hP, decide_eq_false (by omega), Bool.false_and]; decide), hP_0 t i c (by omega)]
theorem hiP_0 (t i q : Nat) : ∀ c, c ≤ i + 1 → fst1 (hiP t i q) c = none
  | 0, _ => rfl
  | c + 1, h => fst1_n (hiP_0 t i q c (by omega)) (by rw [hiP, if_neg (by rw [hP, decide_eq_false (by omega), Bool.false_and]; decide)])
theorem h_T {t i k r q : Nat} (h : r + cnt (hP t i) k = q) (hb : t.testBit k = true) : r - 0 + cnt (hP t i) (k + 1) = q := by
  rw [cnt_s, if_neg (by rw [hP, hb, Bool.not_true, Bool.and_false]; decide)]; exact h
theorem h_F {t i k r q : Nat} (hik : i < k) (h : r + cnt (hP t i) k = q) (hb : t.testBit k = false) (hr : 0 < r) : r - 1 + cnt (hP t i) (k + 1) = q := by
  rw [cnt_s, if_pos (by rw [hP, hb, decide_eq_true hik]; decide)]; omega
theorem g_T {t i k q : Nat} (h : fst1 (hiP t i q) k = none) (hb : t.testBit k = true) : fst1 (hiP t i q) (k + 1) = none := fst1_n h (by rw [hiP, if_neg (by rw [hP, hb, Bool.not_true, Bool.and_false]; decide)])
theorem g_F {t i k r q : Nat} (hik : i < k) (h : fst1 (hiP t i q) k = none) (hc : r + cnt (hP t i) k = q) (hb : t.testBit k = false) (hr : 0 < r) : fst1 (hiP t i q) (k + 1) = none := fst1_n h (by rw [hiP, if_pos (by rw [hP, hb, decide_eq_true hik]; decide), if_neg (by omega)])
theorem hi_k {n t i k r q : Nat} (hik : i < k) (hk : k < n) (h : fst1 (hiP t i q) k = none) (hc : r + cnt (hP t i) k = q) (hb : t.testBit k = false) (hr : ¬ 0 < r) : k = hiM n t i q := by
  rw [hiM, fst1_at (r := k) h (by rw [hiP, if_pos (by rw [hP, hb, decide_eq_true hik]; decide), if_pos (by omega)]) hk]; rfl
theorem hi_n {n t i k r q : Nat} (hk : k = n) (h : fst1 (hiP t i q) k = none) (hc : r + cnt (hP t i) k = q) : hiM n t i q = n ∧ reM n t i q = r := by
  subst hk
  constructor
  · rw [hiM, h]; rfl
  · rw [reM]; omega
theorem st_1 {n code j t i : Nat} (ht : t = (sM n code j).1) (hi : i = loM n t) (hin : i = n) : sM n code (j + 1) = (t, (sM n code j).2.1 && decide (qM code j = 0), (sM n code j).2.2) := by
  rw [sM_s, stM, ← ht, ← hi, if_pos hin]
theorem st_2 {n code j t i k : Nat} (ht : t = (sM n code j).1) (hi : i = loM n t) (hin : i < n) (hk : k = hiM n t i (qM code j)) (hkn : k < n) : sM n code (j + 1) = (t ||| 2 ^ i ||| 2 ^ k, (sM n code j).2.1, (sM n code j).2.2 ++ [(i, k)]) := by
  rw [sM_s, stM, ← ht, ← hi, if_neg (by omega), ← hk, if_neg (by omega), decide_eq_true hkn, Bool.true_or, Bool.and_true]
theorem st_3 {n code j t i k r : Nat} (ht : t = (sM n code j).1) (hi : i = loM n t) (hin : i < n) (hk : k = n) (h : hiM n t i (qM code j) = n ∧ reM n t i (qM code j) = r) : sM n code (j + 1) = (t ||| 2 ^ i ||| 128, (sM n code j).2.1 && (decide (r = 0) && decide (n % 2 = 1) && !t.testBit 7), (sM n code j).2.2 ++ [(i, n)]) := by
  rw [sM_s, stM, ← ht, ← hi, if_neg (by omega), h.1, if_pos rfl, h.2, decide_eq_false (Nat.lt_irrefl n), Bool.false_or]
theorem so_b0 {so : Int32} {b : Bool} (h : so = if b = true then 1 else 0) (hz : so = 0) : b = false := by
  cases b with
  | false => rfl
  | true => rw [if_pos rfl] at h; rw [h] at hz; exact absurd hz (by decide)
theorem so_b1 {so : Int32} {b : Bool} (h : so = if b = true then 1 else 0) (hz : ¬ so = 0) : b = true := by
  cases b with
  | true => rfl
  | false => rw [if_neg (by decide)] at h; exact absurd h hz
theorem bM_ok {be su : Int32} (hp : be = -4 ∨ ¬ be < 0) (h : be < 0 ∨ su < be) : betterF be su = true := br_b hp h
