-- the model: oils, draughts
def auN (i : Nat) : Nat := if i < 10 then 10 - i else i - 10
def scF (t : Nat) (y : Int32) : Int32 := it (fun _ y => if y = 0 then y else oilF y) t y
theorem au_abs : ∀ i, i < 21 → absF (nI i - 10) = nI (auN i) := by decide +kernel
theorem au_le : ∀ i, i < 21 → auN i ≤ 10 := by decide
theorem sc_1 : ∀ i, i < 21 → ∀ t, t < 11 → t ≤ auN i → scF t (nI i - 10) = if 0 < nI i - 10 then nI i - 10 - nI t else nI i - 10 + nI t := by decide +kernel
theorem sc_2 : ∀ i, i < 21 → ∀ t, t < 11 → auN i ≤ t → scF t (nI i - 10) = scF (auN i) (nI i - 10) := by decide +kernel
theorem goil_sc (c : Nat) (g : Nat → Int32) : ∀ t, goilF c t g = upd g c (scF t (g c))
  | 0 => by
    funext j
    by_cases e : j = c
    · rw [e, pk_us]; rfl
    · rw [pk_un e]; rfl
  | t + 1 => by
    have h := goil_sc c g t
    have e : goilF c (t + 1) g = if goilF c t g c = 0 then goilF c t g else upd (goilF c t g) c (oilF (goilF c t g c)) := rfl
    have e2 : scF (t + 1) (g c) = if scF t (g c) = 0 then scF t (g c) else oilF (scF t (g c)) := rfl
    rw [e, e2, h, pk_us]
    by_cases z : scF t (g c) = 0
    · rw [if_pos z, if_pos z]
    · rw [if_neg z, if_neg z]
      funext j
      by_cases e : j = c
      · rw [e, pk_us, pk_us]
      · rw [pk_un e, pk_un e, pk_un e]
theorem goil_T {c t gi : Nat} {g : Nat → Int32} (hgi : gi < 21) (hg : g c = nI gi - 10) (ht : t ≤ auN gi) (h : ¬ 0 < g c) : upd g c (g c + nI t) = goilF c t g := by
  rw [goil_sc, hg, sc_1 gi hgi t (by have := au_le gi hgi; omega) ht, if_neg (by rw [← hg]; exact h)]
theorem goil_F {c t gi : Nat} {g : Nat → Int32} (hgi : gi < 21) (hg : g c = nI gi - 10) (ht : t ≤ auN gi) (h : 0 < g c) : upd g c (g c - nI t) = goilF c t g := by
  rw [goil_sc, hg, sc_1 gi hgi t (by have := au_le gi hgi; omega) ht, if_pos (by rw [← hg]; exact h)]
theorem oils_no {k wb : Nat → Int32} {ld te pu : Nat → Nat} {n m : Nat} {g : Nat → Int32} {day : Int32} {w : Nat → Int32} {c q gi : Nat} {x : Int32} (hgi : gi < 21) (hg : g c = nI gi - 10) (h : fst1 (oilsP k wb ld te pu n m g day w c q x) (auN gi + 1) = none) : -4 = oilsF k wb ld te pu n m g day w c q x := by
  have h0 : oilsP k wb ld te pu n m g day w c q x (auN gi) = none := by
    cases hf : oilsP k wb ld te pu n m g day w c q x (auN gi) with
    | none => rfl
    | some r =>
      obtain ⟨r', h'⟩ := fst1_ex hf (n := auN gi + 1) (by omega)
      rw [h] at h'
      cases h'
  have key : ∀ d, auN gi + 1 + d ≤ 11 → fst1 (oilsP k wb ld te pu n m g day w c q x) (auN gi + 1 + d) = none := by
    intro d
    induction d with
    | zero => intro _; exact h
    | succ d ih =>
      intro hd
      rw [show auN gi + 1 + (d + 1) = (auN gi + 1 + d) + 1 by omega]
      refine fst1_n (ih (by omega)) ?_
      have e : goilF c (auN gi + 1 + d) g = goilF c (auN gi) g := by
        rw [goil_sc, goil_sc, hg, sc_2 gi hgi _ (by omega) (by omega)]
      rw [oilsP] at h0 ⊢
      rw [e]
      split at h0
      · cases h0
      · rename_i z; rw [if_neg z]
  have hk := key (10 - auN gi) (by have := au_le gi hgi; omega)
  have := au_le gi hgi
  rw [oilsF, show (11 : Nat) = auN gi + 1 + (10 - auN gi) by omega, hk]
  rfl
-- the fraction
def redN (s : Nat × Nat) : Nat × Nat :=
  let t := if s.1 % 2 = 0 ∧ s.2 % 2 = 0 then (s.1 / 2, s.2 / 2) else s
  if t.1 % 5 = 0 ∧ t.2 % 5 = 0 then (t.1 / 5, t.2 / 5) else t
theorem it_1 {α : Type} (f : α → α) (q : Nat) (s : α) : it (fun _ => f) (q + 1) s = it (fun _ => f) q (f s) := by
  rw [show q + 1 = 1 + q by omega, it_add]
  rfl
theorem mod_nI {a b : Nat} (ha : a < 2147483648) (hb : b < 2147483648) (h0 : b ≠ 0) : remI (nI a) (nI b) = nI (a % b) := nI_mod' rfl rfl ha hb h0
theorem div_nI {a b : Nat} (ha : a < 2147483648) (hb : b < 2147483648) (h0 : b ≠ 0) : nI a / nI b = nI (a / b) := nI_div' rfl rfl ha hb h0
theorem nI_z {a : Nat} (h : a < 2147483648) : nI a = 0 ↔ a = 0 := by
  constructor
  · intro e
    have e2 := congrArg Int32.toInt e
    rw [nIa _ h, Int32.toInt_zero] at e2
    omega
  · intro e; rw [e]; rfl
theorem red_step {s : Nat × Nat} {d : Nat} (h1 : s.1 < 2147483648) (h2 : s.2 < 2147483648) (hd : d ≠ 0) (hd2 : d < 2147483648) : (if remI (nI s.1) (nI d) = 0 ∧ remI (nI s.2) (nI d) = 0 then (nI s.1 / nI d, nI s.2 / nI d) else (nI s.1, nI s.2)) = ((fun t : Nat × Nat => (nI t.1, nI t.2)) (if s.1 % d = 0 ∧ s.2 % d = 0 then (s.1 / d, s.2 / d) else s)) := by
  have m1 : s.1 % d < 2147483648 := Nat.lt_of_le_of_lt (Nat.mod_le _ _) h1
  have m2 : s.2 % d < 2147483648 := Nat.lt_of_le_of_lt (Nat.mod_le _ _) h2
  rw [mod_nI h1 hd2 hd, mod_nI h2 hd2 hd, div_nI h1 hd2 hd, div_nI h2 hd2 hd]
  by_cases c : s.1 % d = 0 ∧ s.2 % d = 0
  · rw [if_pos c, if_pos ⟨(nI_z m1).mpr c.1, (nI_z m2).mpr c.2⟩]
  · rw [if_neg c, if_neg (fun z => c ⟨(nI_z m1).mp z.1, (nI_z m2).mp z.2⟩)]
theorem red_half {s : Nat × Nat} {d : Nat} (h1 : s.1 < 2147483648) (h2 : s.2 < 2147483648) : (if s.1 % d = 0 ∧ s.2 % d = 0 then (s.1 / d, s.2 / d) else s).1 < 2147483648 ∧ (if s.1 % d = 0 ∧ s.2 % d = 0 then (s.1 / d, s.2 / d) else s).2 < 2147483648 := by
  split
  · exact ⟨Nat.lt_of_le_of_lt (Nat.div_le_self _ _) h1, Nat.lt_of_le_of_lt (Nat.div_le_self _ _) h2⟩
  · exact ⟨h1, h2⟩
def redD (d : Int32) (s : Int32 × Int32) : Int32 × Int32 := if remI s.1 d = 0 ∧ remI s.2 d = 0 then (s.1 / d, s.2 / d) else s
theorem redS_D (s : Int32 × Int32) : redS s = redD 5 (redD 2 s) := rfl
theorem red_nI {s : Nat × Nat} (h1 : s.1 < 2147483648) (h2 : s.2 < 2147483648) : redS (nI s.1, nI s.2) = (nI (redN s).1, nI (redN s).2) ∧ (redN s).1 < 2147483648 ∧ (redN s).2 < 2147483648 := by
  have e : redD 2 (nI s.1, nI s.2) = _ := red_step (d := 2) h1 h2 (by decide) (by decide)
  have b := red_half (d := 2) h1 h2
  rw [redS_D, e, redN]
  generalize (if s.1 % 2 = 0 ∧ s.2 % 2 = 0 then (s.1 / 2, s.2 / 2) else s) = t at *
  exact ⟨red_step (s := t) (d := 5) b.1 b.2 (by decide) (by decide), red_half (s := t) (d := 5) b.1 b.2⟩
theorem redS_it : ∀ (q : Nat) (s : Nat × Nat), s.1 < 2147483648 → s.2 < 2147483648 → it (fun _ => redS) q (nI s.1, nI s.2) = (nI (it (fun _ => redN) q s).1, nI (it (fun _ => redN) q s).2)
  | 0, _, _, _ => rfl
  | q + 1, s, h1, h2 => by
    obtain ⟨e, b1, b2⟩ := red_nI h1 h2
    rw [it_1, it_1, e, redS_it q _ b1 b2]
theorem div_gcd {a b d : Nat} (hd : 0 < d) : d * a / Nat.gcd (d * a) (d * b) = a / Nat.gcd a b := by
  rw [Nat.gcd_mul_left, Nat.mul_div_mul_left _ _ hd]
theorem div_gcd2 {a b d : Nat} (hd : 0 < d) : d * b / Nat.gcd (d * a) (d * b) = b / Nat.gcd a b := by
  rw [Nat.gcd_mul_left, Nat.mul_div_mul_left _ _ hd]
theorem red_half2 {a b d : Nat} (hd : 0 < d) {t : Nat × Nat} (ht : t = if a % d = 0 ∧ b % d = 0 then (a / d, b / d) else (a, b)) : t.1 / Nat.gcd t.1 t.2 = a / Nat.gcd a b ∧ t.2 / Nat.gcd t.1 t.2 = b / Nat.gcd a b := by
  by_cases c : a % d = 0 ∧ b % d = 0
  · rw [if_pos c] at ht
    subst ht
    obtain ⟨a', rfl⟩ := Nat.dvd_of_mod_eq_zero c.1
    obtain ⟨b', rfl⟩ := Nat.dvd_of_mod_eq_zero c.2
    simp only [Nat.mul_div_cancel_left _ hd]
    exact ⟨(div_gcd hd).symm, (div_gcd2 hd).symm⟩
  · rw [if_neg c] at ht
    subst ht
    exact ⟨rfl, rfl⟩
theorem pow_odd {a : Nat} (p : Nat) (h : Nat.Coprime a p) (x : Nat) : Nat.Coprime a (p ^ x) := Nat.Coprime.pow_right x h
theorem cop2 {a : Nat} (h : a % 2 = 1) : Nat.Coprime a 2 := by
  rw [Nat.coprime_comm, Nat.Coprime, Nat.gcd_rec, h]
  rfl
theorem cop5 {a : Nat} (h : a % 5 ≠ 0) : Nat.Coprime a 5 := by
  rw [Nat.coprime_comm, Nat.Coprime, Nat.gcd_rec]
  have h2 := Nat.mod_lt a (show 0 < 5 by decide)
  generalize a % 5 = r at *
  match r, h, h2 with
  | 1, _, _ => rfl
  | 2, _, _ => rfl
  | 3, _, _ => rfl
  | 4, _, _ => rfl
theorem red_end {a x y : Nat} (hx : x = 0 ∨ a % 2 = 1) (hy : y = 0 ∨ a % 5 ≠ 0) : Nat.gcd a (2 ^ x * 5 ^ y) = 1 := by
  refine Nat.Coprime.mul_right ?_ ?_
  · rcases hx with h | h
    · rw [h]; exact Nat.coprime_one_right a
    · exact pow_odd 2 (cop2 h) x
  · rcases hy with h | h
    · rw [h]; exact Nat.coprime_one_right a
    · exact pow_odd 5 (cop5 h) y
theorem pw2 {x y : Nat} : (2 ^ (x + 1) * 5 ^ y) % 2 = 0 ∧ 2 ^ (x + 1) * 5 ^ y / 2 = 2 ^ x * 5 ^ y := by
  rw [Nat.pow_succ, show 2 ^ x * 2 * 5 ^ y = 2 * (2 ^ x * 5 ^ y) by rw [Nat.mul_comm (2 ^ x) 2, Nat.mul_assoc]]
  exact ⟨Nat.mul_mod_right _ _, Nat.mul_div_cancel_left _ (by decide)⟩
theorem pw5 {x y : Nat} : (2 ^ x * 5 ^ (y + 1)) % 5 = 0 ∧ 2 ^ x * 5 ^ (y + 1) / 5 = 2 ^ x * 5 ^ y := by
  rw [Nat.pow_succ, show 2 ^ x * (5 ^ y * 5) = 5 * (2 ^ x * 5 ^ y) by rw [← Nat.mul_assoc, Nat.mul_comm]]
  exact ⟨Nat.mul_mod_right _ _, Nat.mul_div_cancel_left _ (by decide)⟩
theorem pd2 (y : Nat) : 5 ^ y % 2 = 1 := by
  induction y with
  | zero => rfl
  | succ y ih => rw [Nat.pow_succ]; omega
theorem pd5 (x : Nat) : 2 ^ x % 5 ≠ 0 := by
  induction x with
  | zero => decide
  | succ x ih => rw [Nat.pow_succ]; omega
def hN (d : Nat) (s : Nat × Nat) : Nat × Nat := if s.1 % d = 0 ∧ s.2 % d = 0 then (s.1 / d, s.2 / d) else s
theorem redN_h (s : Nat × Nat) : redN s = hN 5 (hN 2 s) := rfl
theorem h2_at {q a x y : Nat} (hx : x ≤ q + 1 ∨ a % 2 = 1) (hy : a % 5 ≠ 0 ∨ y ≤ q + 1) : ∃ a' x', hN 2 (a, 2 ^ x * 5 ^ y) = (a', 2 ^ x' * 5 ^ y) ∧ (x' ≤ q ∨ a' % 2 = 1) ∧ (a' % 5 ≠ 0 ∨ y ≤ q + 1) := by
  by_cases ha : a % 2 = 0
  · cases x with
    | zero =>
      refine ⟨a, 0, ?_, Or.inl (Nat.zero_le _), hy⟩
      rw [hN, if_neg (fun z => by have := pd2 y; have z2 := z.2; simp only [Nat.pow_zero, Nat.one_mul] at z2; omega)]
    | succ x =>
      obtain ⟨e1, e2⟩ := pw2 (x := x) (y := y)
      refine ⟨a / 2, x, ?_, ?_, ?_⟩
      · rw [hN, if_pos ⟨ha, e1⟩]
        show (a / 2, 2 ^ (x + 1) * 5 ^ y / 2) = _
        rw [e2]
      · rcases hx with h | h
        · exact Or.inl (by omega)
        · omega
      · rcases hy with h | h
        · exact Or.inl (by omega)
        · exact Or.inr h
  · refine ⟨a, x, ?_, Or.inr (by omega), hy⟩
    rw [hN, if_neg (fun z => ha z.1)]
theorem h5_at {q a x y : Nat} (hx : x ≤ q ∨ a % 2 = 1) (hy : a % 5 ≠ 0 ∨ y ≤ q + 1) : ∃ a' y', hN 5 (a, 2 ^ x * 5 ^ y) = (a', 2 ^ x * 5 ^ y') ∧ (x ≤ q ∨ a' % 2 = 1) ∧ (a' % 5 ≠ 0 ∨ y' ≤ q) := by
  by_cases ha : a % 5 = 0
  · cases y with
    | zero =>
      refine ⟨a, 0, ?_, hx, Or.inr (Nat.zero_le _)⟩
      rw [hN, if_neg (fun z => by have := pd5 x; have z2 := z.2; simp only [Nat.pow_zero, Nat.mul_one] at z2; omega)]
    | succ y =>
      obtain ⟨e1, e2⟩ := pw5 (x := x) (y := y)
      refine ⟨a / 5, y, ?_, ?_, ?_⟩
      · rw [hN, if_pos ⟨ha, e1⟩]
        show (a / 5, 2 ^ x * 5 ^ (y + 1) / 5) = _
        rw [e2]
      · rcases hx with h | h
        · exact Or.inl h
        · exact Or.inr (by omega)
      · rcases hy with h | h
        · omega
        · exact Or.inr (by omega)
  · refine ⟨a, y, ?_, hx, Or.inl ha⟩
    rw [hN, if_neg (fun z => ha z.1)]
theorem red_all : ∀ (q a x y : Nat), (x ≤ q ∨ a % 2 = 1) → (a % 5 ≠ 0 ∨ y ≤ q) → it (fun _ => redN) q (a, 2 ^ x * 5 ^ y) = (a / Nat.gcd a (2 ^ x * 5 ^ y), 2 ^ x * 5 ^ y / Nat.gcd a (2 ^ x * 5 ^ y))
  | 0, a, x, y, hx, hy => by
    rw [red_end (hx.elim (fun h => Or.inl (by omega)) Or.inr) (hy.elim Or.inr (fun h => Or.inl (by omega))), Nat.div_one, Nat.div_one]
    rfl
  | q + 1, a, x, y, hx, hy => by
    obtain ⟨a1, x1, e1, hx1, hy1⟩ := h2_at hx hy
    obtain ⟨a2, y2, e2, hx2, hy2⟩ := h5_at hx1 hy1
    have g1 := red_half2 (d := 2) (by decide) (t := (a1, 2 ^ x1 * 5 ^ y)) (a := a) (b := 2 ^ x * 5 ^ y) e1.symm
    have g2 := red_half2 (d := 5) (by decide) (t := (a2, 2 ^ x1 * 5 ^ y2)) (a := a1) (b := 2 ^ x1 * 5 ^ y) e2.symm
    rw [it_1, redN_h, e1, e2, red_all q a2 x1 y2 hx2 hy2, ← g1.1, ← g1.2, ← g2.1, ← g2.2]
theorem ten_25 (q : Nat) : 10 ^ q = 2 ^ q * 5 ^ q := by
  rw [← Nat.mul_pow]
theorem tenF_eq : ∀ q, q ≤ 6 → tenF q = nI (10 ^ q) := by decide +kernel
theorem ten_le : ∀ q, q ≤ 6 → 10 ^ q ≤ 1000000 ∧ 1 ≤ 10 ^ q := by decide
theorem low_eq {u q : Nat} (hq : q ≤ 6) (hu : u < 2147483648) : lowF (nI u) q = (nI (u / Nat.gcd u (10 ^ q)), nI (10 ^ q / Nat.gcd u (10 ^ q))) := by
  have h10 := ten_le q hq
  rw [lowF, tenF_eq q hq]
  have h := redS_it q (u, 10 ^ q) hu (by show 10 ^ q < 2147483648; omega)
  rw [h, ten_25, red_all q u q q (Or.inl (Nat.le_refl _)) (Or.inr (Nat.le_refl _))]
theorem dra_nat {k wb : Nat → Int32} {ld te pu : Nat → Nat} {n m : Nat} {g : Nat → Int32} {x day : Int32} {w : Nat → Int32} {dd : Nat} (h1 : ¬ x < 0) (h2 : ¬ 10 < x) : ∀ q, ∃ p, (draF k wb ld te pu n m g x day w q dd).1 = nI p ∧ p ≤ 10 ^ q
  | 0 => ⟨1, rfl, Nat.le_refl _⟩
  | q + 1 => by
    obtain ⟨j, hj, rfl⟩ := nI_of h1
    have hj2 : j ≤ 10 := by
      have := ile' (a := j) (b := 10) (Int32.not_lt.mp h2) (by omega) (by omega)
      omega
    obtain ⟨p, e, hp⟩ := dra_nat (k := k) (wb := wb) (ld := ld) (te := te) (pu := pu) (n := n) (m := m) (g := g) (day := day) (w := w) (dd := dd) h1 h2 q
    have es : draF k wb ld te pu n m g (nI j) day w (q + 1) dd = draS k wb ld te pu n m g (nI j) day dd q (draF k wb ld te pu n m g (nI j) day w q dd) := rfl
    rw [es, draS]
    split
    · refine ⟨p * (10 - j), ?_, ?_⟩
      · show _ * (10 - nI j) = _
        rw [e, show (10 : Int32) = nI 10 from rfl, nI_sub' rfl rfl hj2, nI_mul' rfl rfl]
      · rw [Nat.pow_succ]; exact Nat.mul_le_mul hp (by omega)
    · refine ⟨p * j, ?_, ?_⟩
      · show _ * nI j = _
        rw [e, nI_mul' rfl rfl]
      · rw [Nat.pow_succ]; exact Nat.mul_le_mul hp hj2
theorem abo_nat {k wb : Nat → Int32} {ld te pu : Nat → Nat} {n m : Nat} {g : Nat → Int32} {x day : Int32} {w : Nat → Int32} {c q : Nat} (h1 : ¬ x < 0) (h2 : ¬ 10 < x) : ∀ dd, ∃ u, aboF k wb ld te pu n m g x day w c q dd = nI u ∧ u ≤ dd * 10 ^ q
  | 0 => ⟨0, rfl, Nat.zero_le _⟩
  | dd + 1 => by
    obtain ⟨u, e, hu⟩ := abo_nat (k := k) (wb := wb) (ld := ld) (te := te) (pu := pu) (n := n) (m := m) (g := g) (day := day) (w := w) (c := c) (q := q) h1 h2 dd
    obtain ⟨p, e2, hp⟩ := dra_nat (k := k) (wb := wb) (ld := ld) (te := te) (pu := pu) (n := n) (m := m) (g := g) (day := day) (w := w) (dd := dd) h1 h2 q
    rw [aboF, it_s, ← aboF, e, e2]
    rw [Nat.succ_mul]
    split
    · exact ⟨u + p, nI_add' rfl rfl, by omega⟩
    · exact ⟨u, by rw [Int32.add_zero], by omega⟩
theorem abo_lt {k wb : Nat → Int32} {ld te pu : Nat → Nat} {n m : Nat} {g : Nat → Int32} {x day : Int32} {w : Nat → Int32} {c q : Nat} (h1 : ¬ x < 0) (h2 : ¬ 10 < x) (hq : q ≤ 6) : ∃ u, aboF k wb ld te pu n m g x day w c q (2 ^ q) = nI u ∧ u ≤ 64000000 := by
  obtain ⟨u, e, hu⟩ := abo_nat (k := k) (wb := wb) (ld := ld) (te := te) (pu := pu) (n := n) (m := m) (g := g) (x := x) (day := day) (w := w) (c := c) (q := q) h1 h2 (2 ^ q)
  refine ⟨u, e, Nat.le_trans hu ?_⟩
  exact Nat.mul_le_mul (pow64 q (by omega)) (ten_le q hq).1
