-- THE MODEL: its rows as pictures
def stF (d : Int32) (w g : Nat → Int32) : Nat → Int32 := fun j => if j = 0 then d else if j < 8 then w (j - 1) else g (j - 8)
theorem stF_0 (d : Int32) (w g : Nat → Int32) : stF d w g 0 = d := rfl
theorem stF_w (d : Int32) (w g : Nat → Int32) (c : Nat) (h : c < 7) : stF d w g (1 + c) = w c := by
  rw [stF, if_neg (by omega), if_pos (by omega), Nat.add_sub_cancel_left]
theorem stF_g (d : Int32) (w g : Nat → Int32) (c : Nat) : stF d w g (8 + c) = g c := by
  rw [stF, if_neg (by omega), if_neg (by omega), Nat.add_sub_cancel_left]
theorem stF_u0 (d x : Int32) (w g : Nat → Int32) : ∀ j, j < 15 → upd (stF d w g) 0 x j = stF x w g j := by
  intro j _
  by_cases e : j = 0
  · subst e; rw [pk_us]; rfl
  · rw [pk_un e, stF, stF, if_neg e, if_neg e]
theorem stF_uw (d x : Int32) (w g : Nat → Int32) (b : Nat) (hb : b < 7) : ∀ j, j < 15 → upd (stF d w g) (1 + b) x j = stF d (upd w b x) g j := by
  intro j _
  by_cases e : j = 1 + b
  · subst e; rw [pk_us, stF_w _ _ _ _ hb, pk_us]
  · rw [pk_un e, stF, stF]
    by_cases e0 : j = 0
    · rw [if_pos e0, if_pos e0]
    · rw [if_neg e0, if_neg e0]
      by_cases e8 : j < 8
      · rw [if_pos e8, if_pos e8, pk_un (by omega)]
      · rw [if_neg e8, if_neg e8]
theorem stF_ug (d x : Int32) (w g : Nat → Int32) (b : Nat) (hb : b < 7) : ∀ j, j < 15 → upd (stF d w g) (8 + b) x j = stF d w (upd g b x) j := by
  intro j _
  by_cases e : j = 8 + b
  · subst e; rw [pk_us, stF_g, pk_us]
  · rw [pk_un e, stF, stF]
    by_cases e0 : j = 0
    · rw [if_pos e0, if_pos e0]
    · rw [if_neg e0, if_neg e0]
      by_cases e8 : j < 8
      · rw [if_pos e8, if_pos e8]
      · rw [if_neg e8, if_neg e8, pk_un (by omega)]
/-- three to a place -/
def leF (a b c : Nat → Nat) : Nat → Int32 := fun j => nI (if j % 3 = 0 then a (j / 3) else if j % 3 = 1 then b (j / 3) else c (j / 3))
theorem leF_0 (a b c : Nat → Nat) (k : Nat) : leF a b c (3 * k) = nI (a k) := by
  rw [leF, if_pos (by omega), show 3 * k / 3 = k by omega]
theorem leF_1 (a b c : Nat → Nat) (k : Nat) : leF a b c (3 * k + 1) = nI (b k) := by
  rw [leF, if_neg (by omega), if_pos (by omega), show (3 * k + 1) / 3 = k by omega]
theorem leF_2 (a b c : Nat → Nat) (k : Nat) : leF a b c (3 * k + 2) = nI (c k) := by
  rw [leF, if_neg (by omega), if_neg (by omega), show (3 * k + 2) / 3 = k by omega]
theorem leF_u0 (a b c : Nat → Nat) (k v n : Nat) : ∀ j, j < n → upd (leF a b c) (3 * k) (nI v) j = leF (updN a k v) b c j := by
  intro j _
  by_cases e : j = 3 * k
  · subst e; rw [pk_us, leF_0, updN, if_pos rfl]
  · rw [pk_un e, leF, leF]
    by_cases h : j % 3 = 0
    · rw [if_pos h, if_pos h, updN, if_neg (by omega)]
    · rw [if_neg h, if_neg h]
theorem leF_u1 (a b c : Nat → Nat) (k v n : Nat) : ∀ j, j < n → upd (leF a b c) (3 * k + 1) (nI v) j = leF a (updN b k v) c j := by
  intro j _
  by_cases e : j = 3 * k + 1
  · subst e; rw [pk_us, leF_1, updN, if_pos rfl]
  · rw [pk_un e, leF, leF]
    by_cases h : j % 3 = 0
    · rw [if_pos h, if_pos h]
    · rw [if_neg h, if_neg h]
      by_cases h1 : j % 3 = 1
      · rw [if_pos h1, if_pos h1, updN, if_neg (by omega)]
      · rw [if_neg h1, if_neg h1]
theorem leF_u2 (a b c : Nat → Nat) (k v n : Nat) : ∀ j, j < n → upd (leF a b c) (3 * k + 2) (nI v) j = leF a b (updN c k v) j := by
  intro j _
  by_cases e : j = 3 * k + 2
  · subst e; rw [pk_us, leF_2, updN, if_pos rfl]
  · rw [pk_un e, leF, leF]
    by_cases h : j % 3 = 0
    · rw [if_pos h, if_pos h]
    · rw [if_neg h, if_neg h]
      by_cases h1 : j % 3 = 1
      · rw [if_pos h1, if_pos h1]
      · rw [if_neg h1, if_neg h1, updN, if_neg (by omega)]
/-- two to a place -/
def siF (rc : Nat → Nat) (rm : Nat → Int32) : Nat → Int32 := fun j => if j % 2 = 0 then nI (rc (j / 2)) else rm (j / 2)
theorem siF_0 (rc : Nat → Nat) (rm : Nat → Int32) (k : Nat) : siF rc rm (2 * k) = nI (rc k) := by
  rw [siF, if_pos (by omega), show 2 * k / 2 = k by omega]
theorem siF_1 (rc : Nat → Nat) (rm : Nat → Int32) (k : Nat) : siF rc rm (2 * k + 1) = rm k := by
  rw [siF, if_neg (by omega), show (2 * k + 1) / 2 = k by omega]
theorem siF_u0 (rc : Nat → Nat) (rm : Nat → Int32) (k v n : Nat) : ∀ j, j < n → upd (siF rc rm) (2 * k) (nI v) j = siF (updN rc k v) rm j := by
  intro j _
  by_cases e : j = 2 * k
  · subst e; rw [pk_us, siF_0, updN, if_pos rfl]
  · rw [pk_un e, siF, siF]
    by_cases h : j % 2 = 0
    · rw [if_pos h, if_pos h, updN, if_neg (by omega)]
    · rw [if_neg h, if_neg h]
theorem siF_u1 (rc : Nat → Nat) (rm : Nat → Int32) (k n : Nat) (x : Int32) : ∀ j, j < n → upd (siF rc rm) (2 * k + 1) x j = siF rc (upd rm k x) j := by
  intro j _
  by_cases e : j = 2 * k + 1
  · subst e; rw [pk_us, siF_1, pk_us]
  · rw [pk_un e, siF, siF]
    by_cases h : j % 2 = 0
    · rw [if_pos h, if_pos h]
    · rw [if_neg h, if_neg h, pk_un (by omega)]
/-- fifteen to a place -/
def bkF (zd : Nat → Int32) (zw zg : Nat → Nat → Int32) : Nat → Int32 := fun j => stF (zd (j / 15)) (zw (j / 15)) (zg (j / 15)) (j % 15)
def cpM (to fr : Nat) (a b : Nat → Int32) : Nat → Int32 := fun j => if to ≤ j ∧ j < to + 15 then a (fr + (j - to)) else b j
theorem cpM_0 {d : Int32} {w g b : Nat → Int32} : ∀ j, j < 15 → cpM 0 0 (stF d w g) b j = stF d w g j := by
  intro j hj
  rw [cpM, if_pos (by omega), Nat.sub_zero, Nat.zero_add]
theorem cpM_get {zd : Nat → Int32} {zw zg : Nat → Nat → Int32} {b : Nat → Int32} (k : Nat) : ∀ j, j < 15 → cpM 0 (15 * k) (bkF zd zw zg) b j = stF (zd k) (zw k) (zg k) j := by
  intro j hj
  rw [cpM, if_pos (by omega), Nat.sub_zero, bkF, show (15 * k + j) / 15 = k by omega, show (15 * k + j) % 15 = j by omega]
theorem cpM_put {d : Int32} {w g : Nat → Int32} {zd : Nat → Int32} {zw zg : Nat → Nat → Int32} (k n : Nat) : ∀ j, j < n → cpM (15 * k) 0 (stF d w g) (bkF zd zw zg) j = bkF (putS k d zd) (putS k w zw) (putS k g zg) j := by
  intro j _
  rw [cpM, bkF, bkF, putS, putS, putS]
  by_cases h : 15 * k ≤ j ∧ j < 15 * k + 15
  · have e : j / 15 = k := by omega
    rw [if_pos h, if_pos e, if_pos e, if_pos e, show 0 + (j - 15 * k) = j % 15 by omega]
  · have e : ¬ j / 15 = k := by omega
    rw [if_neg h, if_neg e, if_neg e, if_neg e]
theorem pushF_lt {α : Type} {k : Nat} {x : α} {s : Nat → α} (h : k < 8) : pushF k x s = putS k x s := by rw [pushF, if_pos h]
theorem pushF_8 {α : Type} {x : α} {s : Nat → α} : pushF 8 x s = dropS x s := rfl
theorem cpM_drop {d : Int32} {w g b : Nat → Int32} {zd : Nat → Int32} {zw zg : Nat → Nat → Int32} (hb : ∀ j, j < 105 → b j = bkF zd zw zg (j + 15)) : ∀ j, j < 120 → cpM 105 0 (stF d w g) b j = bkF (dropS d zd) (dropS w zw) (dropS g zg) j := by
  intro j hj
  rw [cpM, bkF, dropS, dropS, dropS]
  by_cases h : 105 ≤ j ∧ j < 105 + 15
  · have e : ¬ j / 15 < 7 := by omega
    rw [if_pos h, if_neg e, if_neg e, if_neg e, show 0 + (j - 105) = j % 15 by omega]
  · have e : j / 15 < 7 := by omega
    rw [if_neg h, if_pos e, if_pos e, if_pos e, hb j (by omega), bkF, show (j + 15) / 15 = j / 15 + 1 by omega, show (j + 15) % 15 = j % 15 by omega]
def inF (v lo hi : Int32) : Int32 := if v < lo then 0 else if hi < v then 0 else 1
theorem inF_1 {v lo hi : Int32} (h1 : ¬ v < lo) (h2 : ¬ hi < v) : inF v lo hi = 1 := by rw [inF, if_neg h1, if_neg h2]
theorem inF_0 {v lo hi : Int32} (h : ¬ (¬ v < lo ∧ ¬ hi < v)) : inF v lo hi = 0 := by
  rw [inF]
  by_cases h1 : v < lo
  · rw [if_pos h1]
  · rw [if_neg h1]
    by_cases h2 : hi < v
    · rw [if_pos h2]
    · exact absurd ⟨h1, h2⟩ h
theorem inF_ok {n : Nat} {c : Int32} (h1 : 1 ≤ n) (hn : n < 2147483648) : inF c 0 (nI (n - 1)) = if okC n c then 1 else 0 := by
  have e : (nI (n - 1) < c) ↔ (nI n ≤ c) := by
    rw [Int32.lt_iff_toInt_lt, Int32.le_iff_toInt_le, nIa _ (by omega), nIa _ hn]
    omega
  by_cases h : okC n c
  · rw [if_pos h, inF_1 h.1 (fun z => h.2 (e.mp z))]
  · rw [if_neg h, inF_0 (fun z => h ⟨z.1, fun y => z.2 (e.mpr y)⟩)]
theorem absF_neg {x : Int32} (h : ¬ 0 ≤ x) : -x = absF x := by rw [absF, if_neg h, Int32.zero_sub]
theorem absF_pos {x : Int32} (h : 0 ≤ x) : x = absF x := by rw [absF, if_pos h]
theorem boundM1 {v : Int32} (h : ¬ v ≤ 600) : 600 = clampF v := by
  have h1 := Int32.not_le.mp h
  rw [Int32.lt_iff_toInt_lt, i600] at h1
  exact Int32.toInt_inj.mp (by rw [clampF_eq, i600]; omega)
theorem boundM2 {v : Int32} (h : ¬ -600 ≤ v) : -600 = clampF v := by
  have h1 := Int32.not_le.mp h
  rw [Int32.lt_iff_toInt_lt, im600] at h1
  exact Int32.toInt_inj.mp (by rw [clampF_eq, im600]; omega)
theorem boundM3 {v : Int32} (h : v ≤ 600) (h2 : -600 ≤ v) : v = clampF v := by
  rw [Int32.le_iff_toInt_le, i600] at h
  rw [Int32.le_iff_toInt_le, im600] at h2
  exact (clampF_id h2 h).symm
theorem Bd_lo {n j : Nat} {w : Nat → Int32} (h : Bd n w) (hj : j < n) : -600 ≤ (w j).toInt := by rw [← h j hj]; exact clampF_lo _
theorem Bd_hi {n j : Nat} {w : Nat → Int32} (h : Bd n w) (hj : j < n) : (w j).toInt ≤ 600 := by rw [← h j hj]; exact clampF_hi _
theorem add_toInt {x y : Int32} (h1 : -2147483648 ≤ x.toInt + y.toInt) (h2 : x.toInt + y.toInt < 2147483648) : (x + y).toInt = x.toInt + y.toInt := by
  rw [Int32.toInt_add, Int.bmod_eq_of_le] <;> omega
theorem sub_toInt {x y : Int32} (h1 : -2147483648 ≤ x.toInt - y.toInt) (h2 : x.toInt - y.toInt < 2147483648) : (x - y).toInt = x.toInt - y.toInt := by
  rw [Int32.toInt_sub, Int.bmod_eq_of_le] <;> omega
theorem half_toInt {x : Int32} (h1 : -2000 ≤ x.toInt) (h2 : x.toInt ≤ 2000) : (x / 2).toInt = x.toInt.tdiv 2 := by
  rw [Int32.toInt_div, show (2 : Int32).toInt = 2 from by decide]
  have h3 : -2000 ≤ x.toInt.tdiv 2 ∧ x.toInt.tdiv 2 ≤ 2000 := by
    rcases Int.le_total 0 x.toInt with h | h
    · rw [Int.tdiv_eq_ediv_of_nonneg h]; omega
    · have e : x.toInt.tdiv 2 = -((-x.toInt).tdiv 2) := by rw [Int.neg_tdiv, Int.neg_neg]
      rw [e, Int.tdiv_eq_ediv_of_nonneg (by omega)]; omega
  rw [Int.bmod_eq_of_le] <;> omega
theorem slow_id {o s : Int32} (h1 : -600 ≤ o.toInt) (h2 : o.toInt ≤ 600) (h3 : -600 ≤ s.toInt) (h4 : s.toInt ≤ 600) : clampF (o + (s - o) / 2) = o + (s - o) / 2 := by
  have e1 : (s - o).toInt = s.toInt - o.toInt := sub_toInt (by omega) (by omega)
  have e2 := half_toInt (x := s - o) (by omega) (by omega)
  rw [e1] at e2
  have h5 : (0 ≤ s.toInt - o.toInt → 0 ≤ (s.toInt - o.toInt).tdiv 2 ∧ (s.toInt - o.toInt).tdiv 2 ≤ s.toInt - o.toInt) ∧ (s.toInt - o.toInt ≤ 0 → s.toInt - o.toInt ≤ (s.toInt - o.toInt).tdiv 2 ∧ (s.toInt - o.toInt).tdiv 2 ≤ 0) := by
    generalize s.toInt - o.toInt = z
    constructor
    · intro h; rw [Int.tdiv_eq_ediv_of_nonneg h]; omega
    · intro h
      have e : z.tdiv 2 = -((-z).tdiv 2) := by rw [Int.neg_tdiv, Int.neg_neg]
      rw [e, Int.tdiv_eq_ediv_of_nonneg (by omega)]; omega
  have e3 : (o + (s - o) / 2).toInt = o.toInt + (s.toInt - o.toInt).tdiv 2 := by rw [add_toInt, e2] <;> rw [e2] <;> omega
  apply clampF_id <;> rw [e3] <;> omega
theorem clamp_min (x : Int32) : clampF (minF 600 x) = clampF x := Int32.toInt_inj.mp (by rw [clampF_eq, clampF_eq, minF_eq, i600]; omega)
theorem learn_no {k : Nat → Int32} {day : Int32} {a b : Nat} {w : Nat → Int32} (h : canF (k b) day = 0) : w = learnF k day a b w := by rw [learnF, if_pos h]
theorem learn_slow {k : Nat → Int32} {day : Int32} {a b n : Nat} {w : Nat → Int32} (hB : Bd n w) (ha : a < n) (hb : b < n) (h : ¬ canF (k b) day = 0) (h1 : k b = 1) : upd w b (w b + (w a - w b) / 2) = learnF k day a b w := by
  rw [learnF, if_neg h, wwF, if_pos h1, slow_id (Bd_lo hB hb) (Bd_hi hB hb) (Bd_lo hB ha) (Bd_hi hB ha)]
theorem learn_cuc {k : Nat → Int32} {day : Int32} {a b : Nat} {w : Nat → Int32} (h : ¬ canF (k b) day = 0) (h1 : ¬ k b = 1) (h2 : k b = 2) : upd w b (clampF (w a + 1)) = learnF k day a b w := by
  rw [learnF, if_neg h, wwF, if_neg h1, if_pos h2, clamp_min]
theorem learn_pl {k : Nat → Int32} {day : Int32} {a b n : Nat} {w : Nat → Int32} (hB : Bd n w) (ha : a < n) (h : ¬ canF (k b) day = 0) (h1 : ¬ k b = 1) (h2 : ¬ k b = 2) : upd w b (w a) = learnF k day a b w := by
  rw [learnF, if_neg h, wwF, if_neg h1, if_neg h2, hB a ha]
theorem absF_toInt {x : Int32} (h : -2147483648 < x.toInt) : (absF x).toInt = if 0 ≤ x.toInt then x.toInt else -x.toInt := by
  rw [absF]
  by_cases h0 : 0 ≤ x
  · rw [if_pos h0, if_pos (by rw [Int32.le_iff_toInt_le, Int32.toInt_zero] at h0; exact h0)]
  · have h1 : ¬ 0 ≤ x.toInt := by rw [Int32.le_iff_toInt_le, Int32.toInt_zero] at h0; exact h0
    rw [if_neg h0, if_neg h1, sub_toInt] <;> rw [Int32.toInt_zero] <;> omega
theorem apart_toInt {n a b : Nat} {w : Nat → Int32} (hB : Bd n w) (ha : a < n) (hb : b < n) : (w a - w b).toInt = (w a).toInt - (w b).toInt := by
  have := Bd_lo hB ha
  have := Bd_hi hB ha
  have := Bd_lo hB hb
  have := Bd_hi hB hb
  exact sub_toInt (by omega) (by omega)
theorem Bd_near {n a b : Nat} {w : Nat → Int32} (h : Bd n w) : Bd n (nearF a b w) := by
  rw [nearF]
  have h1 : ∀ u x, Bd n (if 0 < apartF w a b then upd w u (clampF x) else w) := by
    intro u x
    split
    · exact Bd_upd h u x
    · exact h
  split
  · exact Bd_upd (h1 _ _) _ _
  · exact h1 _ _
theorem cp_s {w1 fa fb : Nat → Int32} {fr to i : Nat} (h : ∀ j, w1 j = if to ≤ j ∧ j < to + i then fa (fr + (j - to)) else fb j) : ∀ j, upd w1 (to + i) (fa (fr + i)) j = if to ≤ j ∧ j < to + (i + 1) then fa (fr + (j - to)) else fb j := by
  intro j
  by_cases e : j = to + i
  · subst e
    rw [pk_us, if_pos (by omega), show to + i - to = i by omega]
  · rw [pk_un e, h]
    by_cases hj : to ≤ j ∧ j < to + i
    · rw [if_pos hj, if_pos (by omega)]
    · rw [if_neg hj, if_neg (by omega)]
/-- how the model hears -/
def nearM (a b : Nat) (w : Nat → Int32) : Nat → Int32 :=
  if 0 < w a - w b then (if 1 < absF (w a - w b) then upd (upd w a (clampF (w a - 1))) b (clampF (upd w a (clampF (w a - 1)) b + 1)) else upd w a (clampF (w a - 1)))
  else if w a - w b = 0 then w
  else (if 1 < absF (w a - w b) then upd (upd w b (clampF (w b - 1))) a (clampF (upd w b (clampF (w b - 1)) a + 1)) else upd w b (clampF (w b - 1)))
theorem near_eq {n a b : Nat} {w : Nat → Int32} (hB : Bd n w) (ha : a < n) (hb : b < n) (hab : a ≠ b) : nearM a b w = nearF a b w := by
  have e := apart_toInt hB ha hb
  have h1 := Bd_lo hB ha
  have h2 := Bd_hi hB ha
  have h3 := Bd_lo hB hb
  have h4 := Bd_hi hB hb
  have e2 := absF_toInt (x := w a - w b) (by omega)
  rw [e] at e2
  have z1 : (1 : Int32).toInt = 1 := by decide
  rw [nearM, nearF, apartF]
  have p1 : (0 < w a - w b) ↔ (w b < w a) := by rw [Int32.lt_iff_toInt_lt, Int32.lt_iff_toInt_lt, e, Int32.toInt_zero]; omega
  have p2 : (w a - w b = 0) ↔ (w a).toInt = (w b).toInt := by rw [← Int32.toInt_inj, e, Int32.toInt_zero]; omega
  have p3 : (0 < absF (w a - w b)) ↔ ¬ (w a).toInt = (w b).toInt := by rw [Int32.lt_iff_toInt_lt, e2, Int32.toInt_zero]; split <;> omega
  have p4 : (1 < absF (w a - w b)) → ¬ (w a).toInt = (w b).toInt := by rw [Int32.lt_iff_toInt_lt, e2, z1]; split <;> omega
  by_cases c1 : w b < w a
  · have c2 : 0 < absF (w a - w b) := p3.mpr (by rw [Int32.lt_iff_toInt_lt] at c1; omega)
    rw [if_pos (p1.mpr c1), if_pos c1, if_pos c1, if_pos c2]
  · rw [if_neg (fun z => c1 (p1.mp z)), if_neg c1, if_neg c1]
    by_cases c3 : (w a).toInt = (w b).toInt
    · rw [if_pos (p2.mpr c3), if_neg (fun z => p3.mp z c3), if_neg (fun z => p4 z c3)]
    · rw [if_neg (fun z => c3 (p2.mp z)), if_pos (p3.mpr c3)]
