-- the law's steps: lemmas
theorem li_write {tf tfy : Nat → Nat} {x l : Nat} (h : ∀ i, i < x → tf i < 1000 ∧ tf i = tfy i) (hl : l ≤ 126) : ∀ i, i < x + 1 → updN tf x l i < 1000 ∧ updN tf x l i = updN tfy x l i := by
  intro i hi
  by_cases e : i = x
  · simp only [updN, if_pos e]
    exact ⟨by omega, trivial⟩
  · simp only [updN, if_neg e]
    exact h i (by omega)
theorem li_hear {rc : Nat → Nat} {n z c : Nat} (h : ∀ i, i < z → rc i < n) (hc : c < n) : ∀ i, i < z + 1 → updN rc z c i < n := by
  intro i hi
  rw [updN]
  split
  · exact hc
  · exact h i (by omega)
theorem sel_2 {v : Int32} (h1 : ¬ v < 0) (h2 : v ≤ 2) : v = 0 ∨ v = 1 ∨ v = 2 := by
  obtain ⟨l, h3, h4, rfl⟩ := upd_rng (a := 0) (b := 2) (by decide) (by decide) h1 h2
  rcases (show l = 0 ∨ l = 1 ∨ l = 2 by omega) with rfl | rfl | rfl
  · exact Or.inl rfl
  · exact Or.inr (Or.inl rfl)
  · exact Or.inr (Or.inr rfl)
theorem sel_01 {v : Int32} (h1 : ¬ v < 0) (h2 : v ≤ 1) : v = 0 ∨ v = 1 := by
  obtain ⟨l, h3, h4, rfl⟩ := upd_rng (a := 0) (b := 1) (by decide) (by decide) h1 h2
  rcases (show l = 0 ∨ l = 1 by omega) with rfl | rfl
  · exact Or.inl rfl
  · exact Or.inr rfl
theorem mix_is {α : Type} {i : Nat} {a b c : Nat → α} (h1 : ∀ j, j < i → c j = a j) (h2 : ∀ j, i ≤ j → c j = b j) : mixF i a b = c := by
  funext j
  rw [mixF]
  split
  · rename_i h
    exact (h1 j h).symm
  · exact (h2 j (by omega)).symm
theorem clamp_t : ∀ t, t < 201 → clampF (nI t - 100) = nI t - 100 := by decide +kernel
theorem lay_li {tf tfy dnuf nuh nuf kr kw kg rl0 rl1 rl2 ld te pu dldf dtef dpuf : Nat → Nat} {k fw fg wb rwb dkf dfwf dfgf dwbf wy gy : Nat → Int32} {x nn nm nn' nm' : Nat} {nwa : Int32} {nk nfw nfg nwb nwbM vk vw vg vwb : Nat → Int32} {nld nte npu nkr nkw nkg nl0 nl1 nl2 vld vte vpu : Nat → Nat}
    (h : ∀ i, i < x → tf i < 1000 ∧ tf i = tfy i) (h0 : ¬ (rdF tf x 200 0 dnuf (0, 0, 0, dkf, dfwf, dfgf, dwbf, dldf, dtef, dpuf)).2.1 = 0)
    (hrf : (nn, nwa, nm, nk, nfw, nfg, nwb, nld, nte, npu) = (rdF tf x 200 0 nuh (0, 0, 0, k, fw, fg, wb, ld, te, pu)).2)
    (hst : (nn', nm', nkr, nkw, nkg, nwbM, nl0, nl1, nl2) = (rdM tfy x 200 0 nuf (0, 0, kr, kw, kg, rwb, rl0, rl1, rl2)).2)
    (hvk : vk = mixF nn' (kM nkr) k) (hvw : vw = mixF nn' (wM nkw) wy) (hvg : vg = mixF nn' (gM nkg) gy) (hvb : vwb = mixF nn' nwbM wb) (hvl : vld = mixF nm' nl0 ld) (hvt : vte = mixF nm' nl1 te) (hvp : vpu = mixF nm' nl2 pu) :
    nn' = nn ∧ nm' = nm ∧ vk = nk ∧ vwb = nwb ∧ vld = nld ∧ vte = nte ∧ vpu = npu ∧ (1 ≤ nn ∧ nn ≤ 7 ∧ nm ≤ 9) ∧ (∀ i, i < nm → nte i < nn ∧ npu i < nn) ∧ (nwa = twoM nn nwb ∧ ∀ c, c < nn → ∃ B, B < 128 ∧ nwb c = nI B) ∧ ST nn 0 nfw nfg 0 vw vg := by
  have r1 := (read_1 (dnuf := dnuf) (nuf := nuf) (kr := kr) (kw := kw) (kg := kg) (rl0 := rl0) (rl1 := rl1) (rl2 := rl2) (ld := dldf) (te := dtef) (pu := dpuf) (k := dkf) (fw := dfwf) (fg := dfgf) (wb := dwbf) (rwb := rwb) h).2
  have r2 := (read_1 (dnuf := nuh) (nuf := nuf) (kr := kr) (kw := kw) (kg := kg) (rl0 := rl0) (rl1 := rl1) (rl2 := rl2) (ld := ld) (te := te) (pu := pu) (k := k) (fw := fw) (fg := fg) (wb := wb) (rwb := rwb) h).2
  have hx9 : HX (0, 0, 0, k, fw, fg, wb, ld, te, pu) (rdF tf x 200 0 nuh (0, 0, 0, k, fw, fg, wb, ld, te, pu)).2 := rdF_X
  have e0 := r1.1
  rw [e0, ← hst] at h0
  rw [← hrf, ← hst] at r2
  rw [← hrf] at hx9
  obtain ⟨a1, a2, a3, a4, a5, a6, a7, a8, a9⟩ := r2
  obtain ⟨-, -, b3, b4⟩ := hx9
  dsimp only at a1 a2 a3 a4 a5 a6 a7 a8 a9 b3 b4 h0
  rw [← a1] at hvk hvw hvg hvb h0
  rw [← a2] at hvl hvt hvp
  obtain ⟨B, wn, c1, c2, c3, c4, c5, c6⟩ := a8
  refine ⟨a1.symm, a2.symm, ?_, ?_, ?_, ?_, ?_, ⟨by omega, a3, a4⟩, ?_, ⟨?_, ?_⟩, rfl, ?_, ?_, ?_, ?_⟩
  · rw [hvk]
    exact mix_is (fun j hj => (a5 j hj).1) (fun j hj => (b3 j hj).1)
  · rw [hvb]
    exact mix_is (fun j hj => (c1 j hj).1.trans (c1 j hj).2.1.symm) (fun j hj => (b3 j hj).2)
  · rw [hvl]
    exact mix_is (fun j hj => (a9 j hj).1) (fun j hj => (b4 j hj).1)
  · rw [hvt]
    exact mix_is (fun j hj => (a9 j hj).2.1) (fun j hj => (b4 j hj).2.1)
  · rw [hvp]
    exact mix_is (fun j hj => (a9 j hj).2.2.1) (fun j hj => (b4 j hj).2.2)
  · intro i hi
    obtain ⟨d1, d2, d3, d4, d5, d6⟩ := a9 i hi
    rw [d2, d3]
    exact ⟨d5, d6⟩
  · rw [c5, twoM_N a3 (fun j hj => ⟨(c1 j hj).1, (c1 j hj).2.2⟩), c6, Nat.mul_div_cancel_left wn (by decide)]
  · exact fun c hc => ⟨B c, (c1 c hc).2.2, (c1 c hc).1⟩
  · intro j hj
    rw [hvw, mixF, if_pos hj, wM, (a6 j hj).1]
  · intro j hj
    rw [hvg, mixF, if_pos hj, gM, (a7 j hj).1]
  · intro j hj
    rw [(a6 j hj).1]
    exact clamp_t _ (by have := (a6 j hj).2; omega)
  · intro j hj
    exact ⟨_, by have := (a7 j hj).2; omega, (a7 j hj).1⟩
