-- THE LAW: what stays true between two calls
def GB (n : Nat) (g : Nat → Int32) : Prop := ∀ c, c < n → ∃ gi, gi < 21 ∧ g c = nI gi - 10
/-- two pictures of how clocks stand -/
def ST (n : Nat) (d : Int32) (w g : Nat → Int32) (dy : Int32) (wy gy : Nat → Int32) : Prop := d = dy ∧ Ag n w wy ∧ Ag n g gy ∧ Bd n w ∧ GB n g
def LI (n m x q q2 z : Nat) (k wb : Nat → Int32) (ld te pu : Nat → Nat) (hwa : Int32) (tf tfy dnuf nuh nuf rc : Nat → Nat) (day : Int32) (w g : Nat → Int32) (dayy : Int32) (wy gy : Nat → Int32) (zd : Nat → Int32) (zw zg : Nat → Nat → Int32) (zdy : Nat → Int32) (zwy zgy : Nat → Nat → Int32) (zd2 : Nat → Int32) (zw2 zg2 : Nat → Nat → Int32) (zd2y : Nat → Int32) (zw2y zg2y : Nat → Nat → Int32) : Prop :=
  (1 ≤ n ∧ n ≤ 7 ∧ m ≤ 9 ∧ x ≤ 200 ∧ q ≤ 8 ∧ q2 ≤ 2 ∧ z ≤ 6) ∧ (∀ i, i < m → te i < n ∧ pu i < n) ∧ (∀ i, i < x → tf i < 1000 ∧ tf i = tfy i) ∧ ((∀ j, j < 3 → dnuf j < 1000) ∧ (∀ j, j < 3 → nuh j < 1000) ∧ (∀ j, j < 3 → nuf j < 1000)) ∧ (hwa = twoM n wb ∧ ∀ c, c < n → ∃ B, B < 128 ∧ wb c = nI B) ∧ ST n day w g dayy wy gy ∧ (∀ i, i < q → ST n (zd i) (zw i) (zg i) (zdy i) (zwy i) (zgy i)) ∧ (∀ i, i < q2 → ST n (zd2 i) (zw2 i) (zg2 i) (zd2y i) (zw2y i) (zg2y i)) ∧ (∀ i, i < z → rc i < n)
theorem oil_21 : ∀ gi, gi < 21 → ∃ gj, gj < 21 ∧ oilF (nI gi - 10) = nI gj - 10 := by decide +kernel
theorem clamp_0 : clampF 0 = 0 := by decide
section LS
variable {n : Nat} {d dy : Int32} {w g wy gy : Nat → Int32}
theorem ST.days {k wb : Nat → Int32} {ld te pu : Nat → Nat} {m v : Nat} (h : ST n d w g dy wy gy) (ht : ∀ i, i < m → te i < n ∧ pu i < n) : ST n (d + nI v) (daysF k wb ld te pu n m g d v w) g (dy + nI v) (daysF k wb ld te pu n m gy dy v wy) gy := by
  obtain ⟨rfl, h2, h3, h4, h5⟩ := h
  exact ⟨rfl, days_ag ht h3 h2, h3, Bd_days h4, h5⟩
theorem ST.learn {k : Nat → Int32} {a b : Nat} (h : ST n d w g dy wy gy) (ha : a < n) (hb : b < n) : ST n d (learnF k d a b w) g dy (learnF k dy a b wy) gy := by
  obtain ⟨rfl, h2, h3, h4, h5⟩ := h
  exact ⟨rfl, learn_ag ha hb h2, h3, Bd_learn h4, h5⟩
theorem ST.set {c : Nat} (h : ST n d w g dy wy gy) : ST n d (upd w c (clampF 0)) g dy (upd wy c (clampF 0)) gy := by
  obtain ⟨h1, h2, h3, h4, h5⟩ := h
  exact ⟨h1, h2.upd, h3, Bd_upd h4 _ _, h5⟩
theorem ST.oil {c : Nat} (h : ST n d w g dy wy gy) (hc : c < n) : ST n d w (upd g c (oilF (g c))) dy wy (upd gy c (oilF (gy c))) := by
  obtain ⟨h1, h2, h3, h4, h5⟩ := h
  refine ⟨h1, h2, ?_, h4, ?_⟩
  · rw [h3 c hc]
    exact h3.upd
  · intro j hj
    by_cases e : j = c
    · obtain ⟨gi, a1, a2⟩ := h5 c hc
      rw [e, pk_us, a2]
      exact oil_21 gi a1
    · rw [pk_un e]
      exact h5 j hj
theorem ST.push {K q : Nat} {zd zdy : Nat → Int32} {zw zg zwy zgy : Nat → Nat → Int32} (h : ST n d w g dy wy gy) (hK : K ≤ 8) (hq : q ≤ 8) (hs : ∀ i, i < q → ST n (zd i) (zw i) (zg i) (zdy i) (zwy i) (zgy i)) : ∀ i, i < min 8 (q + 1) → ST n (pushF q d zd i) (pushF q w zw i) (pushF q g zg i) (pushF q dy zdy i) (pushF q wy zwy i) (pushF q gy zgy i) := by
  intro i hi
  simp only [pushF]
  by_cases h8 : q < 8
  · simp only [if_pos h8, putS]
    by_cases e : i = q
    · simp only [if_pos e]
      exact h
    · simp only [if_neg e]
      exact hs i (by omega)
  · simp only [if_neg h8, dropS]
    by_cases e : i < 7
    · simp only [if_pos e]
      exact hs (i + 1) (by omega)
    · simp only [if_neg e]
      exact h
theorem ST.push2 {q : Nat} {zd zdy : Nat → Int32} {zw zg zwy zgy : Nat → Nat → Int32} (h : ST n d w g dy wy gy) (hq : q < 2) (hs : ∀ i, i < q → ST n (zd i) (zw i) (zg i) (zdy i) (zwy i) (zgy i)) : ∀ i, i < q + 1 → ST n (pushF q d zd i) (pushF q w zw i) (pushF q g zg i) (pushF q dy zdy i) (pushF q wy zwy i) (pushF q gy zgy i) := fun i hi => h.push (Nat.le_refl 8) (by omega) hs i (by omega)
end LS
theorem upd_rng {v lo hi : Int32} {a b : Nat} (hlo : lo.toInt = a) (hhi : hi.toInt = b) (h1 : ¬ v < lo) (h2 : v ≤ hi) : ∃ l, a ≤ l ∧ l ≤ b ∧ v = nI l := by
  have h0 : ¬ v < 0 := by
    intro h
    rw [Int32.lt_iff_toInt_lt] at h h1
    have : (0 : Int32).toInt = 0 := by decide
    omega
  obtain ⟨j, hj, rfl⟩ := nI_of h0
  rw [Int32.lt_iff_toInt_lt, nIa j hj] at h1
  rw [Int32.le_iff_toInt_le, nIa j hj] at h2
  exact ⟨j, by omega, by omega, rfl⟩
theorem sel_1 (v : Int32) : v = 0 ∨ v = 1 ∨ ¬ (v = 0 ∨ v = 1) := by
  by_cases h : v = 0
  · exact Or.inl h
  · by_cases h2 : v = 1
    · exact Or.inr (Or.inl h2)
    · exact Or.inr (Or.inr (fun z => z.elim h h2))
theorem i_eqN {v : Int32} {z : Int} (h : v.toInt = z) {y : Int32} (hy : y.toInt = z) : v = y := Int32.toInt_inj.mp (h.trans hy.symm)
theorem sel_3 (v : Int32) : v = 0 ∨ v = 1 ∨ v = 2 ∨ v = 3 ∨ (v.toInt < 0 ∨ 3 < v.toInt) := by
  rcases (show v.toInt = 0 ∨ v.toInt = 1 ∨ v.toInt = 2 ∨ v.toInt = 3 ∨ (v.toInt < 0 ∨ 3 < v.toInt) by omega) with h | h | h | h | h
  · exact Or.inl (i_eqN h (by decide))
  · exact Or.inr (Or.inl (i_eqN h (by decide)))
  · exact Or.inr (Or.inr (Or.inl (i_eqN h (by decide))))
  · exact Or.inr (Or.inr (Or.inr (Or.inl (i_eqN h (by decide)))))
  · exact Or.inr (Or.inr (Or.inr (Or.inr h)))
theorem sel_8 (v : Int32) : v = 0 ∨ v = 1 ∨ v = 2 ∨ v = 3 ∨ v = 4 ∨ v = 5 ∨ v = 6 ∨ v = 7 ∨ v = 8 ∨ (v.toInt < 0 ∨ 8 < v.toInt) := by
  rcases (show v.toInt = 0 ∨ v.toInt = 1 ∨ v.toInt = 2 ∨ v.toInt = 3 ∨ v.toInt = 4 ∨ v.toInt = 5 ∨ v.toInt = 6 ∨ v.toInt = 7 ∨ v.toInt = 8 ∨ (v.toInt < 0 ∨ 8 < v.toInt) by omega) with h | h | h | h | h | h | h | h | h | h
  · exact Or.inl (i_eqN h (by decide))
  · exact Or.inr (Or.inl (i_eqN h (by decide)))
  · exact Or.inr (Or.inr (Or.inl (i_eqN h (by decide))))
  · exact Or.inr (Or.inr (Or.inr (Or.inl (i_eqN h (by decide)))))
  · exact Or.inr (Or.inr (Or.inr (Or.inr (Or.inl (i_eqN h (by decide))))))
  · exact Or.inr (Or.inr (Or.inr (Or.inr (Or.inr (Or.inl (i_eqN h (by decide)))))))
  · exact Or.inr (Or.inr (Or.inr (Or.inr (Or.inr (Or.inr (Or.inl (i_eqN h (by decide))))))))
  · exact Or.inr (Or.inr (Or.inr (Or.inr (Or.inr (Or.inr (Or.inr (Or.inl (i_eqN h (by decide)))))))))
  · exact Or.inr (Or.inr (Or.inr (Or.inr (Or.inr (Or.inr (Or.inr (Or.inr (Or.inl (i_eqN h (by decide))))))))))
  · exact Or.inr (Or.inr (Or.inr (Or.inr (Or.inr (Or.inr (Or.inr (Or.inr (Or.inr h))))))))
theorem law_ge {ln i : Nat} (hl : ln ≤ 320) (hi : i ≤ 400) (h : ¬ nI ln - 5 < nI i) : i + 5 ≤ ln := by
  have e : (nI ln - 5).toInt = (ln : Int) - 5 := by
    rw [Int32.toInt_sub, nIa ln (by omega), show (5 : Int32).toInt = 5 from by decide]
    rw [Int.bmod_eq_of_le] <;> omega
  rw [Int32.lt_iff_toInt_lt, e, nIa i (by omega)] at h
  omega
-- the two readings, for the law
theorem read_1 {tf tfy dnuf nuf kr kw kg rl0 rl1 rl2 ld te pu : Nat → Nat} {k fw fg wb rwb : Nat → Int32} {x : Nat} (h : ∀ i, i < x → tf i < 1000 ∧ tf i = tfy i) : (rdF tf x 200 0 dnuf (0, 0, 0, k, fw, fg, wb, ld, te, pu)).1 = (rdM tfy x 200 0 nuf (0, 0, kr, kw, kg, rwb, rl0, rl1, rl2)).1 ∧ RelS (rdF tf x 200 0 dnuf (0, 0, 0, k, fw, fg, wb, ld, te, pu)).2 (rdM tfy x 200 0 nuf (0, 0, kr, kw, kg, rwb, rl0, rl1, rl2)).2 := by
  rw [rdF_c (fun i hi => (h i hi).2)]
  exact rd_rel (Rel0 0 rfl k fw fg wb ld te pu kr kw kg rl0 rl1 rl2 rwb)
section LR
variable {V : gV} {Z : gZ} {own : String} {cc : ByteArray} {nL : Nat} {R : Room} {cs : Nat × Nat} {ws : va_W} {pc : Nat} {Lo : List (Option Value)} {st : List Value}
def gSc (Z : gZ) (b L : Nat) (xs : Nat → Int32) : Prop := Z.2.2.2.2 = Z.2.1.1.heap ∧ va_X b L xs Z.2.1.1 Z.2.1.1.heap ∧ b < Z.2.1.1.heap.size ∧ ¬ Z.2.2.2.1 b
theorem g_sld (X : gX V Z own cc nL R) {b L : Nat} {xs : Nat → Int32} (S : gSc Z b L xs) {x : Int32} {i : Nat} (hx : x = nI i) (hi : i < L) (hL : L < 2147483648) (d : decode cc pc = .ok (.iaload, 1)) (k : G V Z nL cs ws (pc + 1) Lo (.int (xs i) :: st)) : G V Z nL cs ws pc Lo (.int x :: .ref b :: st) := by
  subst hx
  intro H locs ls hP hD hS hl
  have hS' := hS
  rw [S.1] at hS'
  exact va_sld X.1 X.2.1 S.2.1 S.2.2.1 S.2.2.2 hS' (vpin_nI hi hL) d (by rw [clampNeg_nI (by omega)]; exact k H locs ls hP hD hS hl)
theorem g_slen (X : gX V Z own cc nL R) {b L : Nat} {xs : Nat → Int32} (S : gSc Z b L xs) (d : decode cc pc = .ok (.arraylength, 1)) (k : G V Z nL cs ws (pc + 1) Lo (.int (nI L) :: st)) : G V Z nL cs ws pc Lo (.ref b :: st) := by
  intro H locs ls hP hD hS hl
  have hS' := hS
  rw [S.1] at hS'
  exact va_slen X.1 X.2.1 S.2.1 S.2.2.1 S.2.2.2 hS' d (k H locs ls hP hD hS hl)
end LR
