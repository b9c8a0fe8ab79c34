-- the model: counting down, dull, child, year
theorem set_pred (j : Nat) : nI (j + 1) - 101 = nI j - 100 := by
  rw [nI_succ, Int32.sub_eq_add_neg, Int32.sub_eq_add_neg, Int32.add_assoc]
  rfl
theorem set_dn (j : Nat) : nI j - 100 + Int32.ofInt (-1) = nI j - 101 := by
  rw [Int32.sub_eq_add_neg, Int32.sub_eq_add_neg, Int32.add_assoc]
  rfl
theorem set_nlt : ∀ j, j < 201 → ¬ nI j - 100 < -100 := by decide +kernel
theorem set_cl : ∀ j, j < 201 → clampF (nI j - 100) = nI j - 100 := by decide +kernel
theorem see_1 {k w wi : Nat → Int32} {c j : Nat} (hj : j < 201) (h : wi = seeF k c (nI j - 100) w) (h3 : ¬ k c = 3) : upd wi c (nI j - 100) = seeF k (c + 1) (nI j - 100) w := by
  rw [seeF_s, if_neg h3, ← h, set_cl j hj]
theorem see_0 {k w wi : Nat → Int32} {c j : Nat} (h : wi = seeF k c (nI j - 100) w) (h3 : k c = 3) : upd wi c (w c) = seeF k (c + 1) (nI j - 100) w := by
  rw [seeF_s, if_pos h3, h]
  funext q
  by_cases e : q = c
  · rw [e, pk_us, seeF_at, if_neg (fun z => absurd z.1 (Nat.lt_irrefl _))]
  · rw [pk_un e]
theorem inF_01 {v : Int32} (h : ¬ (v = 0 ∨ v = 1)) : inF v 0 1 = 0 := by
  apply inF_0
  intro z
  rw [Int32.lt_iff_toInt_lt, Int32.lt_iff_toInt_lt, Int32.toInt_zero, show (1 : Int32).toInt = 1 from by decide] at z
  by_cases e : v.toInt = 0
  · exact h (Or.inl (Int32.toInt_inj.mp (by rw [e]; decide)))
  · exact h (Or.inr (Int32.toInt_inj.mp (by rw [show v.toInt = 1 by omega]; decide)))
theorem dn_F {T : Nat → Bool} {j cn N : Nat} (hT : T j = false) (h : cn + cnt T (j + 1) = N) : cn + cnt T j = N := by
  rw [cnt_s, if_neg (by rw [hT]; decide)] at h; exact h
theorem dn_T {T : Nat → Bool} {j cn N : Nat} (hT : T j = true) (h : cn + cnt T (j + 1) = N) : cn + 1 + cnt T j = N := by
  rw [cnt_s, if_pos hT] at h; omega
theorem dv_F {T : Nat → Bool} {v : Nat → Int32} {j N : Nat} {be : Int32} (hj : j < N) (hT : T j = false) (h : be = fiD T v N (j + 1)) : be = fiD T v N j := by
  rw [fiD_s _ _ hj, if_neg (by rw [hT]; decide)]; exact h
theorem dv_T {T : Nat → Bool} {v : Nat → Int32} {j N : Nat} (hj : j < N) (hT : T j = true) : v j = fiD T v N j := by
  rw [fiD_s _ _ hj, if_pos hT]
theorem ten_dm {a b : Nat} (hb : b < 10) : (10 * a + b) / 10 = a ∧ (10 * a + b) % 10 = b := by omega
theorem dl_no {k : Nat → Int32} {day : Int32} {n a b : Nat} {w : Nat → Int32} (hn : n ≤ 7) (ha : a < n) (hb : b < n) (h : ¬ tOK k day n (10 * a + b)) : (dullP k day w b a).getD 1 = 1 := by
  obtain ⟨e1, e2⟩ := ten_dm (a := a) (b := b) (by omega)
  rw [dullP]
  by_cases e : a = b
  · rw [if_pos e]; rfl
  · rw [if_neg e]
    by_cases c : canF (k b) day = 0
    · rw [if_pos c]; rfl
    · exact absurd (by unfold tOK; rw [e1, e2]; exact ⟨ha, hb, e, c⟩) h
theorem tLe_at {k : Nat → Int32} {day : Int32} {n a b : Nat} {w : Nat → Int32} (hB : Bd n w) (hn : n ≤ 7) (ha : a < n) (hb : b < n) (h : tOK k day n (10 * a + b)) : tLe k day (10 * a + b) w b = wwF (k b) (w a) (w b) ∧ ¬ a = b ∧ ¬ canF (k b) day = 0 := by
  obtain ⟨e1, e2⟩ := ten_dm (a := a) (b := b) (by omega)
  unfold tOK at h
  rw [e1, e2] at h
  refine ⟨?_, h.2.2.1, h.2.2.2⟩
  rw [tLe, e1, e2, learnF, if_neg h.2.2.2, pk_us, ww_id hB ha hb]
theorem dl_y {k : Nat → Int32} {day : Int32} {n a b : Nat} {w : Nat → Int32} (hB : Bd n w) (hn : n ≤ 7) (ha : a < n) (hb : b < n) (h : tOK k day n (10 * a + b)) : (dullP k day w b a).getD 1 = if absF (tLe k day (10 * a + b) w b) < absF (w b) then 0 else 1 := by
  obtain ⟨e1, e2, e3⟩ := tLe_at hB hn ha hb h
  rw [dullP, if_neg e2, if_neg e3, e1]
  by_cases c : absF (wwF (k b) (w a) (w b)) < absF (w b)
  · rw [if_pos c, if_pos c]; rfl
  · rw [if_neg c, if_neg c]; rfl
theorem dl_end {k : Nat → Int32} {day : Int32} {n a b : Nat} {w : Nat → Int32} {du : Int32} (hB : Bd n w) (hb : b < n) (ha : a ≤ n) (h : du = dlF k day w b a) (hz : a = n ∨ du = 0) : du = dullF k day n w b := by
  rcases hz with z | z
  · rw [← dl_n hB hb, ← z]; exact h
  · rw [← dl_n hB hb, z]
    obtain ⟨q, rfl⟩ : ∃ q, n = a + q := ⟨n - a, by omega⟩
    exact (dl_stay (by rw [← h]; exact z) q).symm
theorem yr_s {k wb : Nat → Int32} {ld te pu : Nat → Nat} {n m : Nat} {g : Nat → Int32} {day : Int32} {z i : Nat} {w : Nat → Int32} (h : ¬ drN z i % n = drN z i / 8 % n) : yrS k wb ld te pu n m g day z i w = dayF k wb ld te pu n m g 1 (day + nI i) (learnF k (day + nI i) (drN z i % n) (drN z i / 8 % n) w) := by
  rw [yrS, if_neg h]
  by_cases c : canF (k (drN z i / 8 % n)) (day + nI i) = 0
  · rw [if_pos c, ← learn_no c]
  · rw [if_neg c]
theorem inF_pr {n : Nat} {c : Int32} (h1 : 1 ≤ n) (hn : n < 2147483648) (hc : ¬ inF c (-1) (nI (n - 1)) = 0) : c = -1 ∨ okC n c :=
  (inF_beh (v := 0) h1 hn (by decide) hc).2.2
theorem nI_n4 {i : Nat} (h : i < 2147483648) : ¬ nI i = -4 := by
  intro z
  have e := congrArg Int32.toInt z
  rw [nIa _ h, show (-4 : Int32).toInt = -4 from by decide] at e
  omega
