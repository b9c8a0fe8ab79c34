-- the model: counting down, dull
theorem it_add {α : Type} (f : Nat → α → α) (i : Nat) (s : α) : ∀ k, it f (i + k) s = it (fun j => f (i + j)) k (it f i s)
  | 0 => rfl
  | k + 1 => by rw [show i + (k + 1) = (i + k) + 1 by omega, it_s, it_add f i s k, it_s]
theorem it_cong {α : Type} {f g : Nat → α → α} {n : Nat} {s : α} (h : ∀ j, j < n → ∀ t, f j t = g j t) : it f n s = it g n s := by
  induction n with
  | zero => rfl
  | succ n ih => rw [it_s, it_s, ih (fun j hj => h j (by omega)), h n (by omega)]
theorem it_cut {α : Type} {f : Nat → α → α} {n : Nat} {s : α} : ∀ k, (∀ j, n ≤ j → j < n + k → ∀ t, f j t = t) → it f (n + k) s = it f n s
  | 0, _ => rfl
  | k + 1, h => by rw [show n + (k + 1) = (n + k) + 1 by omega, it_s, it_cut k (fun j h1 h2 => h j h1 (by omega)), h (n + k) (by omega) (by omega)]
theorem it_cut' {α : Type} {f : Nat → α → α} {n m : Nat} {s : α} (hnm : n ≤ m) (h : ∀ j, n ≤ j → j < m → ∀ t, f j t = t) : it f m s = it f n s := by
  obtain ⟨k, rfl⟩ : ∃ k, m = n + k := ⟨m - n, by omega⟩
  exact it_cut k h
theorem it_grid {α : Type} {F : Nat → α → α} {f : Nat → Nat → α → α} {n : Nat} {s : α} (hn : n ≤ 7) (h : ∀ a b, b < 10 → ∀ t, F (10 * a + b) t = if a < n ∧ b < n then f a b t else t) : it F 70 s = it (fun a s => it (f a) n s) n s := by
  have row : ∀ a t, it (fun j => F (10 * a + j)) 10 t = if a < n then it (f a) n t else t := by
    intro a t
    by_cases ha : a < n
    · rw [if_pos ha, it_cut' (n := n) (by omega) (fun j h1 h2 t => by rw [h a j h2, if_neg (by omega)])]
      exact it_cong (fun j hj t => by rw [h a j (by omega), if_pos ⟨ha, hj⟩])
    · rw [if_neg ha, it_cut' (n := 0) (by omega) (fun j h1 h2 t => by rw [h a j h2, if_neg (by omega)])]
      rfl
  have rows : ∀ q, it F (10 * q) s = it (fun a t => if a < n then it (f a) n t else t) q s := by
    intro q
    induction q with
    | zero => rfl
    | succ q ih => rw [show 10 * (q + 1) = 10 * q + 10 by omega, it_add, ih, row, it_s]
  rw [show (70 : Nat) = 10 * 7 from rfl, rows, it_cut' (n := n) hn (fun j h1 h2 t => by rw [if_neg (by omega)])]
  exact it_cong (fun j hj t => by rw [if_pos hj])
def cfS (T : Nat → Bool) (v : Nat → Int32) (i : Nat) (s : Nat × Int32) : Nat × Int32 := if T i = true then (s.1 + 1, if s.1 = 0 then v i else s.2) else s
def fiO (T : Nat → Bool) (v : Nat → Int32) (i : Nat) : Option Int32 := if T i = true then some (v i) else none
theorem cf_eq (T : Nat → Bool) (v : Nat → Int32) : ∀ n, it (cfS T v) n (0, -4) = (cnt T n, (fst1 (fiO T v) n).getD (-4)) ∧ (cnt T n = 0 ↔ fst1 (fiO T v) n = none)
  | 0 => ⟨rfl, by simp [cnt, it, fst1]⟩
  | n + 1 => by
    obtain ⟨h1, h2⟩ := cf_eq T v n
    rw [it_s, h1, cfS, cnt_s, fst1_or, fiO]
    by_cases e : T n = true
    · rw [if_pos e, if_pos e, if_pos e]
      by_cases z : cnt T n = 0
      · rw [h2.mp z]
        refine ⟨?_, ?_⟩
        · show (cnt T n + 1, if cnt T n = 0 then v n else _) = _
          rw [if_pos z]; rfl
        · simp [orO]
      · have h3 : ∃ r, fst1 (fiO T v) n = some r := by
          cases hf : fst1 (fiO T v) n with
          | none => exact absurd (h2.mpr hf) z
          | some r => exact ⟨r, rfl⟩
        obtain ⟨r, hr⟩ := h3
        rw [hr]
        refine ⟨?_, ?_⟩
        · show (cnt T n + 1, if cnt T n = 0 then v n else _) = _
          rw [if_neg z]; rfl
        · simp [orO]
    · rw [if_neg e, if_neg e, if_neg e, orO_n]
      exact ⟨rfl, h2⟩
/-- from the other end -/
def fiD (T : Nat → Bool) (v : Nat → Int32) (N c : Nat) : Int32 := (fst1 (fun j => fiO T v (c + j)) (N - c)).getD (-4)
theorem fiD_N (T : Nat → Bool) (v : Nat → Int32) (N : Nat) : fiD T v N N = -4 := by rw [fiD, Nat.sub_self]; rfl
theorem fiD_0 (T : Nat → Bool) (v : Nat → Int32) (N : Nat) : fiD T v N 0 = (fst1 (fiO T v) N).getD (-4) := by
  rw [fiD, Nat.sub_zero, fst1_cong (fun j _ => by rw [Nat.zero_add])]
theorem fiD_s (T : Nat → Bool) (v : Nat → Int32) {N c : Nat} (h : c < N) : fiD T v N c = if T c = true then v c else fiD T v N (c + 1) := by
  rw [fiD, show N - c = 1 + (N - (c + 1)) by omega, fst1_add]
  have e : fst1 (fun j => fiO T v (c + j)) 1 = fiO T v c := rfl
  rw [e, fiO]
  by_cases z : T c = true
  · rw [if_pos z, if_pos z]; rfl
  · rw [if_neg z, if_neg z, fiD, fst1_cong (g := fun j => fiO T v (c + 1 + j)) (fun j _ => by rw [show c + (1 + j) = c + 1 + j by omega])]
    rfl
def tauT (k : Nat → Int32) (day : Int32) (n : Nat) (w : Nat → Int32) (z : Nat) (rc : Nat → Nat) (rm : Nat → Int32) (c : Nat) : Bool := decide (tOK k day n c ∧ ¬ fitF z rc rm (tLe k day c w) = 0)
theorem tau_eq {k : Nat → Int32} {day : Int32} {n : Nat} {w : Nat → Int32} {z : Nat} {rc : Nat → Nat} {rm : Nat → Int32} (hn : n ≤ 7) : tauF k day n w z rc rm = (cnt (tauT k day n w z rc rm) 70, fiD (tauT k day n w z rc rm) nI 70 0) := by
  rw [fiD_0, ← (cf_eq (tauT k day n w z rc rm) nI 70).1, tauF]
  symm
  refine it_grid (f := fun a b s => tauQ k day w z rc rm a b s) hn (fun a b hb t => ?_)
  have e1 : (10 * a + b) / 10 = a := by omega
  have e2 : (10 * a + b) % 10 = b := by omega
  simp only [cfS, tauT, tOK, tLe, e1, e2, tauQ, decide_eq_true_eq]
  by_cases h : a < n ∧ b < n
  · rw [if_pos h]
    by_cases hab : a = b
    · rw [if_pos hab, if_neg (fun q => q.1.2.2.1 hab)]
    · rw [if_neg hab]
      by_cases hc : canF (k b) day = 0
      · rw [if_pos hc, if_neg (fun q => q.1.2.2.2 hc)]
      · rw [if_neg hc]
        by_cases hf : fitF z rc rm (learnF k day a b w) = 0
        · rw [if_pos hf, if_neg (fun q => q.2 hf)]
        · rw [if_neg hf, if_pos ⟨⟨h.1, h.2, hab, hc⟩, hf⟩]
  · rw [if_neg h, if_neg (fun q => h ⟨q.1.1, q.1.2.1⟩)]
def setT (k : Nat → Int32) (n : Nat) (w : Nat → Int32) (z : Nat) (rc : Nat → Nat) (rm : Nat → Int32) (i : Nat) : Bool := decide (¬ fitF z rc rm (seeF k n (nI i - 100) w) = 0)
theorem set_eq {k : Nat → Int32} {n : Nat} {w : Nat → Int32} {z : Nat} {rc : Nat → Nat} {rm : Nat → Int32} : setF k n w z rc rm = (cnt (setT k n w z rc rm) 201, fiD (setT k n w z rc rm) (fun i => nI i - 100 + 100) 201 0) := by
  rw [fiD_0, ← (cf_eq (setT k n w z rc rm) (fun i => nI i - 100 + 100) 201).1, setF]
  refine it_cong (fun i _ s => ?_)
  rw [setS, cfS, setT]
  by_cases h : fitF z rc rm (seeF k n (nI i - 100) w) = 0 <;> simp [h]
theorem cnt_top (p : Nat → Bool) {c N : Nat} (h : c < N) : cnt p (c + 1) ≤ cnt p N := by
  obtain ⟨k, rfl⟩ : ∃ k, N = (c + 1) + k := ⟨N - (c + 1), by omega⟩
  exact cnt_mono p (c + 1) k
theorem ww_id {k : Nat → Int32} {n a b : Nat} {w : Nat → Int32} (hB : Bd n w) (ha : a < n) (hb : b < n) : clampF (wwF (k b) (w a) (w b)) = wwF (k b) (w a) (w b) := by
  rw [wwF]
  split
  · exact slow_id (Bd_lo hB hb) (Bd_hi hB hb) (Bd_lo hB ha) (Bd_hi hB ha)
  · split
    · have h1 := Bd_lo hB ha
      have h2 := Bd_hi hB ha
      have e : (w a + 1).toInt = (w a).toInt + 1 := by rw [add_toInt] <;> rw [show (1 : Int32).toInt = 1 from by decide] <;> omega
      apply clampF_id <;> rw [minF_eq, i600, e] <;> omega
    · exact hB a ha
def dlF (k : Nat → Int32) (day : Int32) (w : Nat → Int32) (b a : Nat) : Int32 := if w b = 0 then 0 else (fst1 (dullP k day w b) a).getD 1
theorem abs0 {x : Int32} : absF x = 0 ↔ x = 0 := by
  rw [absF]
  by_cases h : 0 ≤ x
  · rw [if_pos h]
  · rw [if_neg h]
    constructor
    · intro e
      have h2 : 0 - x + x = 0 + x := by rw [e]
      rw [Int32.sub_add_cancel, Int32.zero_add] at h2
      exact h2.symm
    · intro e; rw [e]; rfl
theorem dl_n {k : Nat → Int32} {day : Int32} {n b : Nat} {w : Nat → Int32} (hB : Bd n w) (hb : b < n) : dlF k day w b n = dullF k day n w b := by
  rw [dlF, dullF]
  by_cases h : w b = 0
  · rw [if_pos h, if_pos (abs0.mpr h)]
    cases hf : fst1 (dullP k day w b) n with
    | none => rfl
    | some r =>
      obtain ⟨i, -, h2⟩ := fst1_in hf
      rw [dullP] at h2
      split at h2
      · cases h2
      · split at h2
        · cases h2
        · split at h2
          · cases h2; rfl
          · cases h2
  · rw [if_neg h, if_neg (fun z => h (abs0.mp z))]
theorem dl_01 (k : Nat → Int32) (day : Int32) (w : Nat → Int32) (b a : Nat) : dlF k day w b a = 0 ∨ dlF k day w b a = 1 := by
  rw [dlF]
  split
  · exact Or.inl rfl
  · cases hf : fst1 (dullP k day w b) a with
    | none => exact Or.inr rfl
    | some r =>
      obtain ⟨i, -, h2⟩ := fst1_in hf
      rw [dullP] at h2
      split at h2
      · cases h2
      · split at h2
        · cases h2
        · split at h2
          · cases h2; exact Or.inl rfl
          · cases h2
theorem dl_stay {k : Nat → Int32} {day : Int32} {w : Nat → Int32} {b a : Nat} (h : dlF k day w b a = 0) : ∀ q, dlF k day w b (a + q) = 0 := by
  intro q
  rw [dlF] at h ⊢
  by_cases e : w b = 0
  · rw [if_pos e]
  · rw [if_neg e] at h ⊢
    cases hf : fst1 (dullP k day w b) a with
    | none => rw [hf] at h; exact absurd h (by decide)
    | some r => rw [hf] at h; rw [fst1_st (k := q) hf]; exact h
theorem dl_s {k : Nat → Int32} {day : Int32} {w : Nat → Int32} {b a : Nat} (h : ¬ dlF k day w b a = 0) : dlF k day w b (a + 1) = (dullP k day w b a).getD 1 := by
  rw [dlF] at h ⊢
  by_cases e : w b = 0
  · rw [if_pos e] at h; exact absurd rfl h
  · rw [if_neg e] at h ⊢
    cases hf : fst1 (dullP k day w b) a with
    | none => rw [fst1_s hf]
    | some r =>
      rw [hf] at h
      obtain ⟨i, -, h2⟩ := fst1_in hf
      rw [dullP] at h2
      split at h2
      · cases h2
      · split at h2
        · cases h2
        · split at h2
          · cases h2; exact absurd rfl h
          · cases h2
