-- the model: what its tests say
theorem inF_of {v lo hi : Int32} (h : ¬ inF v lo hi = 0) : ¬ v < lo ∧ ¬ hi < v := by
  by_cases z : ¬ v < lo ∧ ¬ hi < v
  · exact z
  · exact absurd (inF_0 z) h
theorem inm1 {n : Nat} (h1 : 1 ≤ n) (hn : n < 2147483648) : ¬ nI (n - 1) < -1 := by
  rw [Int32.lt_iff_toInt_lt, nIa _ (by omega), show (-1 : Int32).toInt = -1 from by decide]
  omega
theorem innn (c : Nat) : ¬ nI c < -1 ∨ 2147483648 ≤ c := by
  by_cases h : c < 2147483648
  · left
    rw [Int32.lt_iff_toInt_lt, nIa _ h, show (-1 : Int32).toInt = -1 from by decide]
    omega
  · right; omega
theorem inF_beh {n : Nat} {v c : Int32} (h1 : 1 ≤ n) (hn : n < 2147483648) (hv : ¬ inF v 0 60 = 0) (hc : ¬ inF c (-1) (nI (n - 1)) = 0) : ¬ v < 0 ∧ v ≤ 60 ∧ (c = -1 ∨ okC n c) := by
  obtain ⟨a1, a2⟩ := inF_of hv
  obtain ⟨b1, b2⟩ := inF_of hc
  refine ⟨a1, Int32.not_lt.mp a2, ?_⟩
  rw [Int32.lt_iff_toInt_lt, show (-1 : Int32).toInt = -1 from by decide] at b1
  rw [Int32.lt_iff_toInt_lt, nIa _ (by omega)] at b2
  by_cases e : c.toInt = -1
  · left
    exact Int32.toInt_inj.mp (by rw [e]; decide)
  · right
    refine ⟨?_, ?_⟩
    · rw [Int32.lt_iff_toInt_lt, Int32.toInt_zero]; omega
    · rw [Int32.le_iff_toInt_le, nIa _ hn]; omega
def twoM (n : Nat) (wb : Nat → Int32) : Int32 := it (fun c s => s + bitsM (wb c)) n 0 / 2
theorem inF_ne {v lo hi : Nat} (h : lo ≤ v ∧ v ≤ hi) (hb : hi < 2147483648) : ¬ inF (nI v) (nI lo) (nI hi) = 0 := by
  rw [inF_1 (flt h.1 (by omega) (by omega)) (flt h.2 (by omega) (by omega))]
  decide
