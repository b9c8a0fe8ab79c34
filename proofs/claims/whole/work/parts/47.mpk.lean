-- the model: pairs
def loP (t c : Nat) : Option Nat := if t.testBit c = true then none else some c
def loM (n t : Nat) : Nat := (fst1 (loP t) n).getD n
def hP (t i c : Nat) : Bool := decide (i < c) && !t.testBit c
def hiP (t i q c : Nat) : Option Nat := if hP t i c = true then (if cnt (hP t i) c = q then some c else none) else none
def hiM (n t i q : Nat) : Nat := (fst1 (hiP t i q) n).getD n
def reM (n t i q : Nat) : Nat := q - cnt (hP t i) n
def stM (n q : Nat) (s : Nat × Bool × List (Nat × Nat)) : Nat × Bool × List (Nat × Nat) :=
  if loM n s.1 = n then (s.1, s.2.1 && decide (q = 0), s.2.2)
  else (s.1 ||| 2 ^ loM n s.1 ||| (if hiM n s.1 (loM n s.1) q = n then 128 else 2 ^ hiM n s.1 (loM n s.1) q), s.2.1 && (decide (hiM n s.1 (loM n s.1) q < n) || (decide (reM n s.1 (loM n s.1) q = 0) && decide (n % 2 = 1) && !s.1.testBit 7)), s.2.2 ++ [(loM n s.1, hiM n s.1 (loM n s.1) q)])
def qM (code j : Nat) : Nat := if j = 0 then code / 15 else if j = 1 then code % 15 / 3 else if j = 2 then code % 3 else 0
def sM (n code j : Nat) : Nat × Bool × List (Nat × Nat) := it (fun j s => stM n (qM code j) s) j (0, true, [])
theorem sM_s (n code j : Nat) : sM n code (j + 1) = stM n (qM code j) (sM n code j) := rfl
def okM (n code : Nat) : Bool := (sM n code 4).2.1
def prM (n code : Nat) : List (Nat × Nat) := (sM n code 4).2.2
def clM (n y : Nat) : List (Nat × Nat) := (List.range (places n / 2)).map (fun j => (lo2 (tp (dgP n y) j), if hi2 (tp (dgP n y) j) (dgP n y j) < n then hi2 (tp (dgP n y) j) (dgP n y j) else n))
theorem all_M : ∀ n, n < 8 → 1 ≤ n → ((List.range 105).filter (okM n)).map (prM n) = (List.range (waysP n)).map (clM n) := by decide +kernel
theorem len_M : ∀ n, n < 8 → 1 ≤ n → ∀ y, y < waysP n → (clM n y).all (fun p => decide (p.1 < n)) = true ∧ (clM n y).length ≤ 4 := by decide +kernel
theorem t_M : ∀ n, n < 8 → 1 ≤ n → ∀ code, code < 105 → ∀ j, j < 4 → (sM n code j).1 < 256 := by decide +kernel
def sumL (n : Nat) (w : Nat → Int32) (l : List (Nat × Nat)) : Int32 := l.foldl (fun s p => if p.2 < n then s + apartF w p.1 p.2 else s) 0
def matL (n : Nat) (l : List (Nat × Nat)) (m : Nat → Int32) : Nat → Int32 := l.foldl (fun m p => if p.2 < n then upd (upd m p.1 (nI p.2)) p.2 (nI p.1) else upd m p.1 (-4)) m
theorem sumL_a (n : Nat) (w : Nat → Int32) (l : List (Nat × Nat)) (p : Nat × Nat) : sumL n w (l ++ [p]) = if p.2 < n then sumL n w l + apartF w p.1 p.2 else sumL n w l := by
  rw [sumL, List.foldl_append]; rfl
theorem matL_a (n : Nat) (l : List (Nat × Nat)) (p : Nat × Nat) (m : Nat → Int32) : matL n (l ++ [p]) m = if p.2 < n then upd (upd (matL n l m) p.1 (nI p.2)) p.2 (nI p.1) else upd (matL n l m) p.1 (-4) := by
  rw [matL, List.foldl_append]; rfl
def clQ (n : Nat) (ch : Nat → Nat) (q : Nat) : List (Nat × Nat) := (List.range q).map (fun j => (lo2 (tp ch j), if hi2 (tp ch j) (ch j) < n then hi2 (tp ch j) (ch j) else n))
theorem clQ_s (n : Nat) (ch : Nat → Nat) (q : Nat) : clQ n ch (q + 1) = clQ n ch q ++ [(lo2 (tp ch q), if hi2 (tp ch q) (ch q) < n then hi2 (tp ch q) (ch q) else n)] := by
  rw [clQ, List.range_succ, List.map_append]; rfl
theorem sum_cl (n : Nat) (w : Nat → Int32) (ch : Nat → Nat) : ∀ q, sumL n w (clQ n ch q) = sumF n w ch q
  | 0 => rfl
  | q + 1 => by
    rw [clQ_s, sumL_a, sumF_s, sum_cl n w ch q]
    by_cases h : hi2 (tp ch q) (ch q) < n
    · simp only [if_pos h]
    · simp only [if_neg h, Nat.lt_irrefl, if_false]
theorem mat_cl (n : Nat) (ch : Nat → Nat) (m : Nat → Int32) : ∀ q, matL n (clQ n ch q) m = mateF n ch q m
  | 0 => rfl
  | q + 1 => by
    rw [clQ_s, matL_a, mateF_s, mat_cl n ch m q]
    by_cases h : hi2 (tp ch q) (ch q) < n
    · simp only [if_pos h]
    · simp only [if_neg h, Nat.lt_irrefl, if_false]
theorem clM_Q (n y : Nat) : clM n y = clQ n (dgP n y) (places n / 2) := rfl
def bstep (n : Nat) (w : Nat → Int32) (l : List (Nat × Nat)) (s : Int32 × (Nat → Int32)) : Int32 × (Nat → Int32) := (offR s.1 (sumL n w l) s.1 (sumL n w l), offR s.1 (sumL n w l) s.2 (matL n l (fun _ => 0)))
def bM (n : Nat) (w : Nat → Int32) (y : Nat) : Int32 × (Nat → Int32) := it (fun code s => if okM n code = true then bstep n w (prM n code) s else s) y (-4, fun _ => 0)
theorem bM_s (n : Nat) (w : Nat → Int32) (y : Nat) : bM n w (y + 1) = if okM n y = true then bstep n w (prM n y) (bM n w y) else bM n w y := rfl
theorem it_fil {α β : Type} (ok : Nat → Bool) (g : Nat → β) (f : β → α → α) (s : α) : ∀ N, it (fun c s => if ok c = true then f (g c) s else s) N s = (((List.range N).filter ok).map g).foldl (fun s l => f l s) s
  | 0 => rfl
  | N + 1 => by
    rw [it_s, it_fil ok g f s N, List.range_succ, List.filter_append, List.map_append, List.foldl_append]
    by_cases h : ok N = true
    · rw [if_pos h, List.filter_cons_of_pos h]; rfl
    · rw [if_neg h, List.filter_cons_of_neg h]; rfl
theorem bestP_b (n : Nat) (w : Nat → Int32) : ∀ N, bestP n w N = ((List.range N).map (clM n)).foldl (fun s l => bstep n w l s) (-4, fun _ => 0)
  | 0 => rfl
  | N + 1 => by
    rw [List.range_succ, List.map_append, List.foldl_append, ← bestP_b n w N]
    show _ = bstep n w (clM n N) (bestP n w N)
    rw [bstep, clM_Q, sum_cl, mat_cl]
    rfl
theorem bM_all {n : Nat} {w : Nat → Int32} (h1 : 1 ≤ n) (hn : n ≤ 7) : bM n w 105 = bestP n w (waysP n) := by
  rw [bestP_b, ← all_M n (by omega) h1, bM, it_fil (okM n) (prM n) (fun l s => bstep n w l s)]
theorem pr_cl {n code : Nat} (h1 : 1 ≤ n) (hn : n ≤ 7) (hc : code < 105) (ho : okM n code = true) : ∃ y, y < waysP n ∧ prM n code = clM n y := by
  have h : prM n code ∈ ((List.range 105).filter (okM n)).map (prM n) := List.mem_map.mpr ⟨code, List.mem_filter.mpr ⟨List.mem_range.mpr hc, ho⟩, rfl⟩
  rw [all_M n (by omega) h1] at h
  obtain ⟨y, hy, e⟩ := List.mem_map.mp h
  exact ⟨y, List.mem_range.mp hy, e.symm⟩
theorem mat_any {n code j : Nat} (h1 : 1 ≤ n) (hn : n ≤ 7) (hc : code < 105) (ho : okM n code = true) (hj : j < n) (m m' : Nat → Int32) : matL n (prM n code) m j = matL n (prM n code) m' j := by
  obtain ⟨y, hy, e⟩ := pr_cl h1 hn hc ho
  rw [e, clM_Q, mat_cl, mat_cl]
  exact mate_any (by omega) hy hj m m'
theorem apart_pos {n a b : Nat} {w : Nat → Int32} (hB : Bd n w) (ha : a < n) (hb : b < n) : 0 ≤ (apartF w a b).toInt ∧ (apartF w a b).toInt ≤ 1200 := by
  have a1 := Bd_lo hB ha
  have a2 := Bd_hi hB ha
  have b1 := Bd_lo hB hb
  have b2 := Bd_hi hB hb
  have e : (w a - w b).toInt = (w a).toInt - (w b).toInt := by
    rw [Int32.toInt_sub, Int.bmod_eq_of_le (by omega) (by omega)]
  rw [apartF, absF]
  split
  · rename_i z; rw [Int32.le_iff_toInt_le, Int32.toInt_zero] at z; omega
  · rename_i z
    rw [Int32.le_iff_toInt_le, Int32.toInt_zero] at z
    rw [Int32.toInt_sub, Int32.toInt_zero, Int.bmod_eq_of_le (by omega) (by omega)]
    omega
theorem sumL_pos {n : Nat} {w : Nat → Int32} (hB : Bd n w) : ∀ (l : List (Nat × Nat)) (s : Int32), (∀ p ∈ l, p.1 < n) → 0 ≤ s.toInt → s.toInt + 1200 * l.length ≤ 100000 → 0 ≤ (l.foldl (fun s p => if p.2 < n then s + apartF w p.1 p.2 else s) s).toInt
  | [], _, _, h, _ => h
  | p :: l, s, hl, h1, h2 => by
    have hp := hl p List.mem_cons_self
    rw [List.length_cons] at h2
    rw [List.foldl_cons]
    by_cases q : p.2 < n
    · rw [if_pos q]
      obtain ⟨a1, a2⟩ := apart_pos hB hp q
      have e : (s + apartF w p.1 p.2).toInt = s.toInt + (apartF w p.1 p.2).toInt := add_toInt (by omega) (by omega)
      exact sumL_pos hB l _ (fun p h => hl p (List.mem_cons_of_mem _ h)) (by omega) (by omega)
    · rw [if_neg q]
      exact sumL_pos hB l _ (fun p h => hl p (List.mem_cons_of_mem _ h)) h1 (by omega)
theorem sumP_pos {n y : Nat} {w : Nat → Int32} (h1 : 1 ≤ n) (hn : n ≤ 7) (hB : Bd n w) (hy : y < waysP n) : ¬ sumL n w (clM n y) < 0 := by
  obtain ⟨a, b⟩ := len_M n (by omega) h1 y hy
  have h := sumL_pos hB (clM n y) 0 (fun p hp => of_decide_eq_true (List.all_eq_true.mp a p hp)) (by decide) (by rw [Int32.toInt_zero]; omega)
  rw [Int32.lt_iff_toInt_lt, Int32.toInt_zero]
  have e : (sumL n w (clM n y)).toInt = (List.foldl (fun s p => if p.2 < n then s + apartF w p.1 p.2 else s) 0 (clM n y)).toInt := rfl
  omega
theorem bM_pos {n : Nat} {w : Nat → Int32} (h1 : 1 ≤ n) (hn : n ≤ 7) (hB : Bd n w) : ∀ y, y ≤ 105 → (bM n w y).1 = -4 ∨ ¬ (bM n w y).1 < 0
  | 0, _ => Or.inl rfl
  | y + 1, hy => by
    rw [bM_s]
    split
    · rename_i ho
      obtain ⟨y', hy', e⟩ := pr_cl h1 hn (show y < 105 by omega) ho
      show offR _ _ _ _ = -4 ∨ ¬ offR _ _ _ _ < 0
      rw [offR]
      split
      · right; rw [e]; exact sumP_pos h1 hn hB hy'
      · exact bM_pos h1 hn hB y (by omega)
    · exact bM_pos h1 hn hB y (by omega)
theorem bestP_n4 {n : Nat} {w : Nat → Int32} (h1 : 1 ≤ n) (hn : n ≤ 7) (hB : Bd n w) : ∀ y, 1 ≤ y → y ≤ waysP n → ¬ (bestP n w y).1 < 0
  | 0, h, _ => absurd h (by omega)
  | y + 1, _, hy => by
    have e : (bestP n w (y + 1)).1 = offR (bestP n w y).1 (sumL n w (clM n y)) (bestP n w y).1 (sumL n w (clM n y)) := by
      rw [clM_Q, sum_cl]; rfl
    rw [e, offR]
    split
    · exact sumP_pos h1 hn hB (by omega)
    · rename_i hb
      cases y with
      | zero => exact absurd (by rw [bestP, betterF]; simp) hb
      | succ y => exact bestP_n4 h1 hn hB (y + 1) (by omega) (by omega)
theorem bM_T {n y : Nat} {w : Nat → Int32} {be : Int32} (ho : okM n y = true) (hs : be = (bM n w y).1) (hb : betterF be (sumL n w (prM n y)) = true) : bM n w (y + 1) = (sumL n w (prM n y), matL n (prM n y) (fun _ => 0)) := by
  rw [bM_s, if_pos ho, bstep, ← hs, offR, offR, if_pos hb, if_pos hb]
theorem bM_F {n y : Nat} {w : Nat → Int32} {be : Int32} (ho : okM n y = true) (hs : be = (bM n w y).1) (hb : ¬ betterF be (sumL n w (prM n y)) = true) : bM n w (y + 1) = bM n w y := by
  rw [bM_s, if_pos ho, bstep, ← hs, offR, offR, if_neg hb, if_neg hb, hs]
theorem bM_0 {n y : Nat} {w : Nat → Int32} (ho : ¬ okM n y = true) : bM n w (y + 1) = bM n w y := by rw [bM_s, if_neg ho]
