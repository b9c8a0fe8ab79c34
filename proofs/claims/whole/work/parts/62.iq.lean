-- constructors: lemmas
theorem va_P_arrq {D : va_G} {cl : List vw_C} {ws : va_W} {H : Heap} (h : va_P D cl ws H) {q0 a n : Nat} {cA : ClassId} {f g : Nat → Option Nat} (he : ws[q0]? = some (a, .inl (cA, n, .inr (.inr (.inr (.inr f)))))) (hfg : ∀ j, j < n → f j = g j) : va_P D cl (ws.set q0 (a, .inl (cA, n, .inr (.inr (.inr (.inr g)))))) H := by
  intro k q hq
  rw [List.getElem?_set] at hq
  split at hq
  · split at hq
    · cases hq
      have h1 : H[a]? = some (vp_cell cA (n, .inr (.inr (.inr (.inr f))))) := h q0 _ he
      show H[a]? = some (vp_cell cA (n, .inr (.inr (.inr (.inr g)))))
      rw [h1]
      congr 1
      show arrV cA n (fun j => va_rf (f j)) = arrV cA n (fun j => va_rf (g j))
      rw [arrV, arrV]
      congr 1
      apply Array.ext
      · simp
      · intro i h1 h2
        have hi : i < n := by simpa using h1
        simp [hfg i hi]
    · cases hq
  · exact h k q hq
section GAQ
variable {V : gV} {Z : gZ} {own : String} {cc : ByteArray} {nL : Nat} {R : Room} {cs : Nat × Nat} {ws : va_W} {pc : Nat} {L : List (Option Value)} {st : List Value}
theorem g_arrq (q0 : Nat) {a n : Nat} {f : Nat → Option Nat} (g : Nat → Option Nat) (he : ws[q0]? = some (a, .inl (V.2.2.2, n, .inr (.inr (.inr (.inr f)))))) (hfg : ∀ j, j < n → f j = g j) {ws' : va_W} (hw : ws.set q0 (a, .inl (V.2.2.2, n, .inr (.inr (.inr (.inr g))))) = ws') (k : G V Z nL cs ws' pc L st) : G V Z nL cs ws pc L st := by
  subst hw
  exact fun H locs ls hP hD hS hL => k H locs ls (va_P_arrq hP he hfg) (va_D_set hD he) hS hL
theorem g_astq' (X : gX V Z own cc nL R) (q0 qk : Nat) {a n v : Nat} {vs : List Value} {f : Nat → Option Nat} (ha : ws[q0]? = some (a, .inl (V.2.2.2, n, .inr (.inr (.inr (.inr f)))))) {T : u_T} {N ci : Nat} (hv : ws[qk]? = some (v, .inr (ci, vs))) (hc : classes[ci]? = some (RX8, T, N)) {x : Int32} {i : Nat} (hx : x = nI i) (hi : i < n) (hn : n < 2147483648) {ws' : va_W} (hw : ws.set q0 (a, .inl (V.2.2.2, n, .inr (.inr (.inr (.inr (va_up f i (some v))))))) = ws') (d : decode cc pc = .ok (.aastore, 1)) (k : G V Z nL cs ws' (pc + 1) L st) : G V Z nL cs ws pc L (.ref v :: .int x :: .ref a :: st) := by
  subst hx
  exact g_astq X q0 qk ha hv hc (vpin_nI hi hn) (by rw [clampNeg_nI (by omega)]; exact hw) d k
end GAQ
def selL (l : List Nat) (i : Nat) : Nat := l.getD i 0
def i32L (l : List Int32) (i : Nat) : Int32 := l.getD i 0
theorem app_step {tf1 : Nat → Int32} {i : Nat} (h : ∀ j, j < 200 → tf1 j = if j < i then lts.getD j 0 else 0) : ∀ j, j < 200 → upd tf1 i (lts.getD i 0) j = if j < i + 1 then lts.getD j 0 else 0 := by
  intro j hj
  by_cases e : j = i
  · rw [e, pk_us, if_pos (by omega)]
  · rw [pk_un e, h j hj]
    by_cases q9 : j < i
    · rw [if_pos q9, if_pos (by omega)]
    · rw [if_neg q9, if_neg (by omega)]
def ltN : List Nat := [99, 48, 44, 49, 48, 48, 44, 49, 48, 59, 99, 49, 44, 49, 49, 50, 44, 49, 49, 59, 99, 50, 44, 57, 53, 44, 49, 48, 59, 99, 51, 44, 49, 51, 48, 44, 57, 59, 99, 52, 44, 56, 48, 44, 49, 50, 59, 119, 48, 44, 49, 59, 119, 49, 44, 50, 59, 119, 51, 44, 52, 59, 108, 48, 44, 48, 44, 49, 59, 108, 49, 44, 49, 44, 50, 59, 108, 50, 44, 50, 44, 52, 59, 108, 54, 44, 48, 44, 52, 59, 108, 57, 44, 52, 44, 51, 59]
def ltF : Nat → Nat := fun j => ltN.getD j 0
theorem ltF_ok : ∀ j, j < 200 → (if j < 97 then lts.getD j 0 else 0) = nIf ltF j := by decide +kernel
theorem ltF_lt : ∀ j, j < 97 → ltF j < 1000 := by decide +kernel
def R0 : Option Nat × HS := rdF ltF 97 200 0 (fun _ => 0) (0, 0, 0, fun _ => 0, fun _ => 0, fun _ => 0, fun _ => 0, fun _ => 0, fun _ => 0, fun _ => 0)
def K0 : Nat → Int32 := i32L [0, 1, 2, 3, 4]
def W0 : Nat → Int32 := i32L [0, 12, -5, 30, -20]
def G0 : Nat → Int32 := i32L [0, 1, 0, -1, 2]
def B0 : Nat → Int32 := i32L [2, 5, 2, 16, 8]
def LD0 : Nat → Nat := selL [0, 1, 2, 6, 9]
def TE0 : Nat → Nat := selL [0, 1, 2, 0, 4]
def PU0 : Nat → Nat := selL [1, 2, 4, 4, 3]
def KR0 : Nat → Nat := selL [0, 1, 2, 3, 4]
def KW0 : Nat → Nat := selL [100, 112, 95, 130, 80]
def KG0 : Nat → Nat := selL [10, 11, 10, 9, 12]
theorem R0_1 : R0.1 = none := by decide +kernel
theorem R0_n : R0.2.1 = 5 ∧ R0.2.2.1 = 3 ∧ R0.2.2.2.1 = 5 := by decide +kernel
theorem R0_k : ∀ j, j < 7 → R0.2.2.2.2.1 j = K0 j := by decide +kernel
theorem R0_w : ∀ j, j < 7 → R0.2.2.2.2.2.1 j = W0 j := by decide +kernel
theorem R0_g : ∀ j, j < 7 → R0.2.2.2.2.2.2.1 j = G0 j := by decide +kernel
theorem R0_b : ∀ j, j < 7 → R0.2.2.2.2.2.2.2.1 j = B0 j := by decide +kernel
theorem R0_ld : ∀ j, j < 9 → nIf R0.2.2.2.2.2.2.2.2.1 j = nIf LD0 j := by decide +kernel
theorem R0_te : ∀ j, j < 9 → nIf R0.2.2.2.2.2.2.2.2.2.1 j = nIf TE0 j := by decide +kernel
theorem R0_pu : ∀ j, j < 9 → nIf R0.2.2.2.2.2.2.2.2.2.2 j = nIf PU0 j := by decide +kernel
