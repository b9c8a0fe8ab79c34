-- steps of the best order and the best twos
theorem ord_0 {o : Nat → Nat} {ch : Nat → Nat} : ∀ j, j < 7 → upd (nIf o) 0 0 j = nI (ordO 1 ch o j) := by
  intro j _
  by_cases e : j = 0
  · subst e
    rfl
  · rw [pk_un e, ordO, if_neg (by omega)]
    rfl
theorem ord_step {w1 : Nat → Int32} {o ch : Nat → Nat} {i t : Nat} (hi : 1 ≤ i) (ht : t = tk ch (i - 1)) (h : ∀ j, j < 7 → w1 j = nI (ordO i ch o j)) : ∀ j, j < 7 → upd w1 i (nI (freeN t (ch (i - 1)))) j = nI (ordO (i + 1) ch o j) := by
  obtain ⟨i', rfl⟩ : ∃ i', i = i' + 1 := ⟨i - 1, by omega⟩
  intro j hj
  by_cases e : j = i' + 1
  · subst e
    rw [pk_us, ordO, if_pos (by omega), ordN, ht]
    rfl
  · rw [pk_un e, h j hj, ordO, ordO]
    by_cases q : j < i' + 1
    · rw [if_pos q, if_pos (by omega)]
    · rw [if_neg q, if_neg (by omega)]
theorem tk_step {ch : Nat → Nat} {i t : Nat} (hi : 1 ≤ i) (ht : t = tk ch (i - 1)) : t ||| 2 ^ freeN t (ch (i - 1)) = tk ch (i + 1 - 1) := by
  obtain ⟨i', rfl⟩ : ∃ i', i = i' + 1 := ⟨i - 1, by omega⟩
  rw [ht]
  rfl
theorem dgR_lt {n y i : Nat} (h : i < n - 1) (hn : n ≤ 7) : dgR n y i < 1000 := by
  have := Nat.mod_lt (y / fa (n - 2 - i)) (show 0 < n - 1 - i by omega)
  rw [dgR]
  omega
theorem ringW_s (k : Nat → Int32) (day : Int32) (f : Nat → Nat) (n : Nat) (w : Nat → Int32) : ringW k day f (n + 1) w = if n < 1 then ringW k day f n w else learnF k day (f (n - 1)) (f n) (ringW k day f n w) := rfl
theorem ringW_0 (k : Nat → Int32) (day : Int32) (f : Nat → Nat) (w : Nat → Int32) : ringW k day f 0 w = w := rfl
theorem ringW_congr {k : Nat → Int32} {day : Int32} {f g : Nat → Nat} {w : Nat → Int32} {n : Nat} (h : ∀ j, j < n → f j = g j) : ringW k day f n w = ringW k day g n w := by
  induction n with
  | zero => rw [ringW_0, ringW_0]
  | succ n ih => rw [ringW_s, ringW_s, ih (fun j hj => h j (by omega)), h (n - 1) (by omega), h n (by omega)]
theorem offR_nIf (s os : Int32) (a b : Nat → Nat) (j : Nat) : offR s os (nIf a) (nIf b) j = nIf (offR s os a b) j := by
  rw [offR, offR]
  split <;> rfl
theorem bestR_1 {k : Nat → Int32} {day : Int32} {n y : Nat} {w : Nat → Int32} {sm r : Int32} {od : Nat → Nat} (hs : sm = (bestR k day n w y).1) (hod : ∀ j, j < n → od j = ordN (dgR n y) j) (hr : r = togF n (ringW k day od n w)) : offR sm r sm r = (bestR k day n w (y + 1)).1 := by
  rw [hr, ringW_congr hod, hs]
  rfl
theorem bestR_2 {k : Nat → Int32} {day : Int32} {n y : Nat} {w : Nat → Int32} {sm r : Int32} {od ro : Nat → Nat} (hs : sm = (bestR k day n w y).1) (hod : ∀ j, j < n → od j = ordN (dgR n y) j) (hr : r = togF n (ringW k day od n w)) (hro : 0 < y → ∀ j, j < n → ro j = (bestR k day n w y).2 j) : ∀ j, j < n → offR sm r ro od j = (bestR k day n w (y + 1)).2 j := by
  intro j hj
  rw [hr, ringW_congr hod, hs]
  show offR _ _ ro od j = offR _ _ (bestR k day n w y).2 (ordN (dgR n y)) j
  rw [offR, offR]
  split
  · exact hod j hj
  · rename_i hb
    cases y with
    | zero => exact absurd (by rw [bestR, betterF]; simp) hb
    | succ y => exact hro (by omega) j hj
def mateF (n : Nat) (ch : Nat → Nat) (q : Nat) (m0 : Nat → Int32) : Nat → Int32 := it (fun j m => if hi2 (tp ch j) (ch j) < n then upd (upd m (lo2 (tp ch j)) (nI (hi2 (tp ch j) (ch j)))) (hi2 (tp ch j) (ch j)) (nI (lo2 (tp ch j))) else upd m (lo2 (tp ch j)) (-4)) q m0
def sumF (n : Nat) (w : Nat → Int32) (ch : Nat → Nat) (q : Nat) : Int32 := it (fun j s => if hi2 (tp ch j) (ch j) < n then s + apartF w (lo2 (tp ch j)) (hi2 (tp ch j) (ch j)) else s) q 0
theorem sumF_s (n : Nat) (w : Nat → Int32) (ch : Nat → Nat) (q : Nat) : sumF n w ch (q + 1) = if hi2 (tp ch q) (ch q) < n then sumF n w ch q + apartF w (lo2 (tp ch q)) (hi2 (tp ch q) (ch q)) else sumF n w ch q := rfl
theorem mateF_s (n : Nat) (ch : Nat → Nat) (q : Nat) (m0 : Nat → Int32) : mateF n ch (q + 1) m0 = if hi2 (tp ch q) (ch q) < n then upd (upd (mateF n ch q m0) (lo2 (tp ch q)) (nI (hi2 (tp ch q) (ch q)))) (hi2 (tp ch q) (ch q)) (nI (lo2 (tp ch q))) else upd (mateF n ch q m0) (lo2 (tp ch q)) (-4) := rfl
theorem pair_split {n : Nat} {w : Nat → Int32} {ch : Nat → Nat} {m0 : Nat → Int32} {q : Nat} : it (pairS n w ch) q (0, m0) = (sumF n w ch q, mateF n ch q m0) := by
  induction q with
  | zero => rfl
  | succ q ih =>
    rw [it_s, ih, sumF_s, mateF_s, pairS]
    dsimp only
    split <;> rfl
theorem upd_cong {f g : Nat → Int32} {a : Nat} {v : Int32} {j : Nat} (h : f j = g j) : upd f a v j = upd g a v j := by
  by_cases e : j = a
  · rw [e, pk_us, pk_us]
  · rw [pk_un e, pk_un e, h]
theorem mate_or {n : Nat} {ch : Nat → Nat} (j : Nat) : ∀ q, (∀ m, mateF n ch q m j = m j) ∨ ∀ m m', mateF n ch q m j = mateF n ch q m' j
  | 0 => Or.inl (fun m => rfl)
  | q + 1 => by
    rcases mate_or (n := n) (ch := ch) j q with h | h
    · by_cases e1 : j = lo2 (tp ch q)
      · right
        intro m m'
        rw [mateF, mateF, it_s, it_s, ← mateF, ← mateF]
        split
        · by_cases e2 : j = hi2 (tp ch q) (ch q)
          · rw [← e2, pk_us, pk_us]
          · rw [pk_un e2, pk_un e2, ← e1, pk_us, pk_us]
        · rw [← e1, pk_us, pk_us]
      · by_cases e2 : hi2 (tp ch q) (ch q) < n ∧ j = hi2 (tp ch q) (ch q)
        · right
          intro m m'
          rw [mateF, mateF, it_s, it_s, ← mateF, ← mateF, if_pos e2.1, if_pos e2.1, ← e2.2, pk_us, pk_us]
        · left
          intro m
          rw [mateF, it_s, ← mateF]
          split
          · rename_i h3
            rw [pk_un (fun z => e2 ⟨h3, z⟩), pk_un e1, h]
          · rw [pk_un e1, h]
    · right
      intro m m'
      rw [mateF, mateF, it_s, it_s, ← mateF, ← mateF]
      split
      · exact upd_cong (upd_cong (h m m'))
      · exact upd_cong (h m m')
theorem mate_01 : ∀ n, n < 8 → ∀ y, y < waysP n → ∀ j, j < n → mateF n (dgP n y) (places n / 2) (fun _ => 0) j = mateF n (dgP n y) (places n / 2) (fun _ => 1) j := by decide +kernel
theorem mate_any {n y j : Nat} (hn : n < 8) (hy : y < waysP n) (hj : j < n) (m m' : Nat → Int32) : mateF n (dgP n y) (places n / 2) m j = mateF n (dgP n y) (places n / 2) m' j := by
  rcases mate_or (n := n) (ch := dgP n y) j (places n / 2) with h | h
  · have h1 := mate_01 n hn y hy j hj
    rw [h, h] at h1
    exact absurd h1 (by decide)
  · exact h m m'
theorem mateF_congr {n : Nat} {a b : Nat → Nat} {m : Nat → Int32} : ∀ {q : Nat}, (∀ i, i < q → a i = b i) → mateF n a q m = mateF n b q m
  | 0, _ => rfl
  | q + 1, h => by
    rw [mateF, mateF, it_s, it_s, ← mateF, ← mateF, mateF_congr (fun i hi => h i (by omega)), tp_congr (fun i hi => h i (by omega)), h q (by omega)]
theorem sumF_0 (n : Nat) (w : Nat → Int32) (ch : Nat → Nat) : sumF n w ch 0 = 0 := rfl
theorem sumF_congr {n : Nat} {w : Nat → Int32} {a b : Nat → Nat} {q : Nat} (h : ∀ i, i < q → a i = b i) : sumF n w a q = sumF n w b q := by
  induction q with
  | zero => rw [sumF_0, sumF_0]
  | succ q ih => rw [sumF_s, sumF_s, ih (fun i hi => h i (by omega)), tp_congr (fun i hi => h i (by omega)), h q (by omega)]
/-- the best of the first y ways to put n clocks in twos -/
def bestP (n : Nat) (w : Nat → Int32) : Nat → Int32 × (Nat → Int32)
  | 0 => (-4, fun _ => 0)
  | y + 1 => let s := bestP n w y; let os := sumF n w (dgP n y) (places n / 2); (offR s.1 os s.1 os, offR s.1 os s.2 (mateF n (dgP n y) (places n / 2) (fun _ => 0)))
theorem bestP_2 {n y : Nat} {w : Nat → Int32} {sm r : Int32} {mf lf : Nat → Int32} (hs : sm = (bestP n w y).1) (hm : ∀ j, j < n → mf j = mateF n (dgP n y) (places n / 2) (fun _ => 0) j) (hr : r = sumF n w (dgP n y) (places n / 2)) (hlf : 0 < y → ∀ j, j < n → lf j = (bestP n w y).2 j) : ∀ j, j < n → offR sm r lf mf j = (bestP n w (y + 1)).2 j := by
  intro j hj
  rw [hr, hs]
  show offR _ _ lf mf j = offR _ _ (bestP n w y).2 (mateF n (dgP n y) (places n / 2) (fun _ => 0)) j
  rw [offR, offR]
  split
  · exact hm j hj
  · rename_i hb
    cases y with
    | zero => exact absurd (by rw [bestP, betterF]; simp) hb
    | succ y => exact hlf (by omega) j hj
theorem dgP_lt {n y i : Nat} (h : i < places n / 2) (hn : n ≤ 7) : dgP n y i < 1000 := by
  have h1 : places n ≤ 8 := by rw [places]; omega
  have := Nat.mod_lt (y / df (places n / 2 - 1 - i)) (show 0 < places n - 1 - 2 * i by omega)
  rw [dgP]
  omega
theorem nI_dec2 (a : Nat) : nI (a + 1) + Int32.ofInt (-2) = nI a - 1 := by
  rw [nI_succ, show Int32.ofInt (-2) = -1 + -1 from by decide, Int32.sub_eq_add_neg, ← Int32.add_assoc, Int32.add_assoc (nI a) 1 (-1), show (1 : Int32) + -1 = 0 from by decide, Int32.add_zero]
theorem nI_dec' {a b : Nat} (h : a = b + 1) : nI a + Int32.ofInt (-1) = nI b := by
  subst h
  rw [nI_dec (k := 1) (by omega) (-1) (by decide), Nat.add_sub_cancel]
theorem nI_m1 (a : Nat) (h : 1 ≤ a) : nI a - 1 = nI (a - 1) := nI_sub' rfl rfl h
theorem nI_dec2' {a b : Nat} (h : a = b + 1) : nI a + Int32.ofInt (-2) = nI b - 1 := by
  subst h
  exact nI_dec2 b
