-- the two readings go together, items and all
abbrev RelS (s : HS) (t : MSt) : Prop := s.1 = t.1 ∧ s.2.2.1 = t.2.1 ∧ s.1 ≤ 7 ∧ s.2.2.1 ≤ 9 ∧ (∀ j, j < s.1 → s.2.2.2.1 j = nI (t.2.2.1 j) ∧ t.2.2.1 j ≤ 4) ∧ (∀ j, j < s.1 → s.2.2.2.2.1 j = nI (t.2.2.2.1 j) - 100 ∧ t.2.2.2.1 j ≤ 200) ∧ (∀ j, j < s.1 → s.2.2.2.2.2.1 j = nI (t.2.2.2.2.1 j) - 10 ∧ t.2.2.2.2.1 j ≤ 20) ∧ RelB s.1 s.2.1 s.2.2.2.2.2.2.1 t.2.2.2.2.2.1 ∧ (∀ j, j < s.2.2.1 → s.2.2.2.2.2.2.2.1 j = t.2.2.2.2.2.2.1 j ∧ s.2.2.2.2.2.2.2.2.1 j = t.2.2.2.2.2.2.2.1 j ∧ s.2.2.2.2.2.2.2.2.2 j = t.2.2.2.2.2.2.2.2 j ∧ t.2.2.2.2.2.2.1 j < 14 ∧ t.2.2.2.2.2.2.2.1 j < s.1 ∧ t.2.2.2.2.2.2.2.2 j < s.1)
theorem item_rel {l to : Nat} {nu nu' : Nat → Nat} {s : HS} {t : MSt} (hok : itemOK l to nu' s.1 s.2.2.1) (hnu : ∀ j, j < to → nu j = nu' j) (h : RelS s t) : RelS (itemF l nu s) (itemM l nu' t) := by
  obtain ⟨n, wa, m, k, fw, fg, wb, ld, te, pu⟩ := s
  obtain ⟨n', m', kr, kw, kg, rwb, r0, r1, r2⟩ := t
  obtain ⟨e1, e2, h7, h9, hk, hw, hg, hb, hl⟩ := h
  dsimp only at *
  subst e1
  subst e2
  rcases hok with ⟨a1, a2, a3, a4, a5, a6⟩ | ⟨a1, a2, a3, a4, a5⟩ | ⟨a1, a2, a3, a4, a5, a6, a7⟩
  · rw [itemF, itemM, if_pos a1, if_pos a1]
    refine ⟨rfl, rfl, by show n + 1 ≤ 7; omega, h9, ?_, ?_, ?_, RelB_new a3 hb, ?_⟩
    · intro j hj
      show upd k n (nI (nu 0)) j = nI (updN kr n (nu' 0) j) ∧ updN kr n (nu' 0) j ≤ 4
      by_cases e : j = n
      · rw [e, pk_us, updN, if_pos rfl, hnu 0 (by omega)]; exact ⟨rfl, a4⟩
      · rw [pk_un e, updN, if_neg e]; exact hk j (by have : j < n + 1 := hj; omega)
    · intro j hj
      show upd fw n (nI (nu 1) - 100) j = nI (updN kw n (nu' 1) j) - 100 ∧ updN kw n (nu' 1) j ≤ 200
      by_cases e : j = n
      · rw [e, pk_us, updN, if_pos rfl, hnu 1 (by omega)]; exact ⟨rfl, a5⟩
      · rw [pk_un e, updN, if_neg e]; exact hw j (by have : j < n + 1 := hj; omega)
    · intro j hj
      show upd fg n (nI (nu 2) - 10) j = nI (updN kg n (nu' 2) j) - 10 ∧ updN kg n (nu' 2) j ≤ 20
      by_cases e : j = n
      · rw [e, pk_us, updN, if_pos rfl, hnu 2 (by omega)]; exact ⟨rfl, a6⟩
      · rw [pk_un e, updN, if_neg e]; exact hg j (by have : j < n + 1 := hj; omega)
    · intro j hj
      obtain ⟨b1, b2, b3, b4, b5, b6⟩ := hl j hj
      exact ⟨b1, b2, b3, b4, by show r1 j < n + 1; omega, by show r2 j < n + 1; omega⟩
  · have hl99 : ¬ l = 99 := by omega
    rw [itemF, itemM, if_neg hl99, if_neg hl99, if_pos a1, if_pos a1, hnu 0 (by omega), hnu 1 (by omega)]
    exact ⟨rfl, rfl, h7, h9, hk, hw, hg, RelB_wall h7 a3 a4 a5 hb, hl⟩
  · have hl99 : ¬ l = 99 := by omega
    have hl119 : ¬ l = 119 := by omega
    rw [itemF, itemM, if_neg hl99, if_neg hl99, if_neg hl119, if_neg hl119, hnu 0 (by omega), hnu 1 (by omega), hnu 2 (by omega)]
    refine ⟨rfl, rfl, h7, by show m + 1 ≤ 9; omega, hk, hw, hg, hb, ?_⟩
    intro j hj
    show updN ld m (nu' 0) j = updN r0 m (nu' 0) j ∧ updN te m (nu' 1) j = updN r1 m (nu' 1) j ∧ updN pu m (nu' 2) j = updN r2 m (nu' 2) j ∧ updN r0 m (nu' 0) j < 14 ∧ updN r1 m (nu' 1) j < n ∧ updN r2 m (nu' 2) j < n
    by_cases e : j = m
    · subst e
      simp only [updN, if_true]
      exact ⟨trivial, trivial, trivial, a4, a5, a6⟩
    · simp only [updN, if_neg e]
      exact hl j (by have : j < m + 1 := hj; omega)
theorem rd_rel {tf : Nat → Nat} {x : Nat} : ∀ {f p : Nat} {nu nu' : Nat → Nat} {s : HS} {t : MSt}, RelS s t → (rdF tf x f p nu s).1 = (rdM tf x f p nu' t).1 ∧ RelS (rdF tf x f p nu s).2 (rdM tf x f p nu' t).2
  | 0, p, nu, nu', s, t, h => by rw [rdF, rdM]; exact ⟨rfl, h⟩
  | f + 1, p, nu, nu', s, t, h => by
    obtain ⟨i1, i2, i3⟩ := rdN_ind (tf := tf) (d := x - (p + 1)) (p := p + 1) (fig := 0) (num := 0) (to := 0) (nu := nu) (nu' := nu') (fun j hj => absurd hj (Nat.not_lt_zero _))
    rw [rdF, rdM]
    by_cases hp : x ≤ p
    · rw [if_pos hp, if_pos hp]; exact ⟨rfl, h⟩
    · rw [if_neg hp, if_neg hp, i1, i2]
      cases hq : (rdN tf (x - (p + 1)) (p + 1) 0 0 0 nu').1 with
      | none => exact ⟨rfl, h⟩
      | some q =>
        dsimp only
        have hto := rdN_to (tf := tf) (d := x - (p + 1)) (p := p + 1) (fig := 0) (num := 0) (nu := nu') (Nat.zero_le 3)
        have e1 := h.1
        have e2 := h.2.1
        have hiff : itemOK (tf p) (rdN tf (x - (p + 1)) (p + 1) 0 0 0 nu').2.1 (rdN tf (x - (p + 1)) (p + 1) 0 0 0 nu).2.2 s.1 s.2.2.1 ↔ itemOK (tf p) (rdN tf (x - (p + 1)) (p + 1) 0 0 0 nu').2.1 (rdN tf (x - (p + 1)) (p + 1) 0 0 0 nu').2.2 t.1 t.2.1 := by
          rw [← e1, ← e2]
          unfold itemOK
          have j0 := i3 0
          have j1 := i3 1
          have j2 := i3 2
          constructor <;> intro z <;> omega
        by_cases hok : itemOK (tf p) (rdN tf (x - (p + 1)) (p + 1) 0 0 0 nu').2.1 (rdN tf (x - (p + 1)) (p + 1) 0 0 0 nu').2.2 t.1 t.2.1
        · rw [if_pos (hiff.mpr hok), if_pos hok]
          exact rd_rel (item_rel (by rw [e1, e2]; exact hok) i3 h)
        · rw [if_neg (fun z => hok (hiff.mp z)), if_neg hok]
          exact ⟨rfl, h⟩
theorem Rel0 (wa : Int32) (hwa : wa = 0) (k fw fg wb : Nat → Int32) (ld te pu kr kw kg r0 r1 r2 : Nat → Nat) (rwb : Nat → Int32) : RelS (0, wa, 0, k, fw, fg, wb, ld, te, pu) (0, 0, kr, kw, kg, rwb, r0, r1, r2) := by
  refine ⟨rfl, rfl, Nat.zero_le _, Nat.zero_le _, fun j h => absurd h (Nat.not_lt_zero _), fun j h => absurd h (Nat.not_lt_zero _), fun j h => absurd h (Nat.not_lt_zero _), ?_, fun j h => absurd h (Nat.not_lt_zero _)⟩
  exact ⟨fun _ => 0, 0, fun j h => absurd h (Nat.not_lt_zero _), fun j h => absurd h (Nat.not_lt_zero _), fun j h => absurd h (Nat.not_lt_zero _), fun j h => absurd h (Nat.not_lt_zero _), hwa, rfl⟩
