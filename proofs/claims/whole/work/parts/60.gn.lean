-- rows of the constructors
section GN
variable {V : gV} {Z : gZ} {own : String} {cc : ByteArray} {nL : Nat} {R : Room} {cs : Nat × Nat} {ws : va_W} {pc : Nat} {L : List (Option Value)} {st : List Value}
theorem g_newa (X : gX V Z own cc nL R) {n : Int32} (N' : Nat) (harr : Cond.arrayClass FieldType.int ∈ lw_tbl) (hn : ¬ n < 0) (hN : n.toNatClampNeg = N') (hby : N' * componentBytes FieldType.int ≤ 536870912) {cs' : Nat × Nat} (hc1 : cs.1 + 1 = cs'.1) (hc2 : cs.2 + N' = cs'.2) (hr1 : cs'.1 ≤ R.cells) (hr2 : cs'.2 ≤ R.slots) (d : decode cc pc = .ok (.newarray .int, 2)) (k : ∀ q : Nat, G V Z nL cs' (ws ++ [(q, .inl (V.2.2.1, N', .inl (fun _ => 0)))]) (pc + 2) L (.ref q :: st)) : G V Z nL cs ws pc L (.int n :: st) := by
  intro H locs ls hP hD hS hL
  obtain ⟨c1, c2⟩ := cs'
  dsimp only at hc1 hc2 hr1 hr2
  have hR : Z.1.2.2.2 = R := X.2.2.2.2.2.2.2.2.2.1
  refine va_newa (atype := .int) (ty := .int) (a0 := (N', .inl (fun _ => 0))) X.1 X.2.1 (show (Cond.arrayClass FieldType.int).before Z.2.1.2.2.1 Z.2.1.1 = true from X.w harr) rfl X.2.2.2.2.2.2.1 hP hD hS X.2.2.2.2.2.2.2.1 (fun cA => rfl) hn hN hby (by rw [hR]; omega) (by rw [hR]; omega) d ?_
  intro q cA H1 hK1 hP1 hD1 hS1
  have e1 : va_RA Z.2.1.1 cA .int := (hK1.2 2 (cA, .int) rfl).2
  have e2 : va_RA Z.2.1.1 V.2.2.1 .int := (X.2.2.2.2.2.2.1.2 0 (V.2.2.1, .int) rfl).2
  have e3 : cA = V.2.2.1 := by
    have h1 : Z.2.1.1.vm.findClass ("[" ++ FieldType.int.toString) = some cA := e1
    have h2 : Z.2.1.1.vm.findClass ("[" ++ FieldType.int.toString) = some V.2.2.1 := e2
    rw [h1] at h2
    exact Option.some.inj h2
  subst e3
  rw [hc1, hc2]
  exact k q H1 locs ls hP1 hD1 hS1 hL
end GN
