-- rows of the constructors
section GN
variable {V : gV} {Z : gZ} {own : String} {cc : ByteArray} {nL : Nat} {R : Room} {cs : Nat × Nat} {ws : va_W} {pc : Nat} {L : List (Option Value)} {st : List Value}
theorem g_newa (X : gX V Z own cc nL R) {n : Int32} (N' : Nat) (harr : Cond.arrayClass FieldType.int ∈ lw_tbl) (hn : ¬ n < 0) (hN : n.toNatClampNeg = N') (hby : N' * componentBytes FieldType.int ≤ 536870912) {cs' : Nat × Nat} (hc1 : cs.1 + 1 = cs'.1) (hc2 : cs.2 + N' = cs'.2) (hr1 : cs'.1 ≤ R.cells) (hr2 : cs'.2 ≤ R.slots) (d : decode cc pc = .ok (.newarray .int, 2)) (k : ∀ q : Nat, G V Z nL cs' (ws ++ [(q, .inl (V.2.2.1, N', .inl (fun _ => 0)))]) (pc + 2) L (.ref q :: st)) : G V Z nL cs ws pc L (.int n :: st) := by
  intro H locs ls hP hD hS hL
  obtain ⟨c1, c2⟩ := cs'
  dsimp only at hc1 hc2 hr1 hr2
  have hR : Z.1.2.2.2 = R := X.2.2.2.2.2.2.2.2.2.1
  refine va_newa (atype := .int) (ty := .int) (a0 := (N', .inl (fun _ => 0))) X.1 X.2.1 (show (Cond.arrayClass FieldType.int).before Z.2.1.2.2.1 Z.2.1.1 = true from X.w harr) rfl X.2.2.2.2.2.2.1 hP hD hS X.2.2.2.2.2.2.2.1 (fun cA => rfl) hn hN hby (by rw [hR]; omega) (by rw [hR]; omega) d ?_
  intro q cA H1 hK1 hP1 hD1 hS1
  have e1 : va_RA Z.2.1.1 cA .int := (hK1.2 2 (cA, .int) rfl).2
  have e2 : va_RA Z.2.1.1 V.2.2.1 .int := (X.2.2.2.2.2.2.1.2 0 (V.2.2.1, .int) rfl).2
  have e3 : cA = V.2.2.1 := by
    have h1 : Z.2.1.1.vm.findClass ("[" ++ FieldType.int.toString) = some cA := e1
    have h2 : Z.2.1.1.vm.findClass ("[" ++ FieldType.int.toString) = some V.2.2.1 := e2
    rw [h1] at h2
    exact Option.some.inj h2
  subst e3
  rw [hc1, hc2]
  exact k q H1 locs ls hP1 hD1 hS1 hL
theorem g_new (X : gX V Z own cc nL R) {C : String} {T : u_T} {N ci idx : Nat} (hin : ∀ w ∈ u_ws C T N, w ∈ lw_tbl) (hg : (u_ws C T N).all goodWord = true) (ty : Nat → FieldType) (hty : ∀ k, k < N → parseFieldDescriptor (T k).2.2.1 = some (ty k)) (hcl : Cond.classLink own idx C ∈ lw_tbl) (hinst : Cond.instantiable C N ∈ lw_tbl) (hini : Cond.initialized C ∈ lw_tbl) (hc : classes[ci]? = some (C, T, N)) (fs : List Value) (hfs : ∀ j, j < N → defaultValue (ty j) = vp_V fs j) {cs' : Nat × Nat} (hc1 : cs.1 + 1 = cs'.1) (hc2 : cs.2 + N = cs'.2) (hr1 : cs'.1 ≤ R.cells) (hr2 : cs'.2 ≤ R.slots) (d : decode cc pc = .ok (.new idx, 3)) (k : ∀ q : Nat, G V Z nL cs' (ws ++ [(q, .inr (ci, fs))]) (pc + 3) L (.ref q :: st)) : G V Z nL cs ws pc L st := by
  intro H locs ls hP hD hS hL
  obtain ⟨c1, c2⟩ := cs'
  dsimp only at hc1 hc2 hr1 hr2
  have hR : Z.1.2.2.2 = R := X.2.2.2.2.2.2.2.2.2.1
  refine va_new X.1 X.2.1 X.2.2.2.2.1 (fun w hw => tG_in (hin w hw) (List.all_eq_true.mp hg w hw)) ty hty X.2.2.2.1 (X.w hcl) (X.w hinst) (X.w hini) X.2.2.2.2.2.2.1 hP hD hS X.2.2.2.2.2.2.2.1 hc hfs (by rw [hR]; omega) (by rw [hR]; omega) d ?_
  intro q H1 hP1 hD1 hS1
  rw [hc1, hc2]
  exact k q H1 locs ls hP1 hD1 hS1 hL
theorem g_putF (X : gX V Z own cc nL R) (hi : Z.2.1.2.2.2.2.1.name = "<init>") {ref C : String} {T : u_T} {N ci idx a : Nat} (hin : ∀ w ∈ u_ws C T N, w ∈ lw_tbl) (ty0 : Nat → FieldType) (hty : ∀ k, k < N → parseFieldDescriptor (T k).2.2.1 = some (ty0 k)) (hnm : ∀ a, a < N → ∀ b, b < N → a ≠ b → (T a).2.1 ≠ (T b).2.1) (q0 : Nat) {fs : List Value} (he : ws[q0]? = some (a, .inr (ci, fs))) (hc : classes[ci]? = some (C, T, N)) (j : Nat) (hj : j < N) (hl : Cond.fieldLink own idx ref (T j).2.1 (T j).2.2.1 ∈ lw_tbl) (hr : (T j).1 = ref) (hfin : (T j).2.2.2 = true) (hdecl : (T j).1 = own) {v : Value} (hn : narrow (ty0 j) v = v) (hfit : fits (ty0 j) v = true) (hfl : j < fs.length) (hg : (u_ws C T N).all goodWord = true) {ws' : va_W} (hw : ws.set q0 (a, .inr (ci, fs.set j v)) = ws') (d : decode cc pc = .ok (.putfield idx, 3)) (k : G V Z nL cs ws' (pc + 3) L st) : G V Z nL cs ws pc L (v :: .ref a :: st) := fun H locs ls hP hD hS hL => va_putF X.1 X.2.1 X.2.2.2.2.1 (fun w hw => tG_in (hin w hw) (List.all_eq_true.mp hg w hw)) ty0 hty hnm X.2.2.2.1 X.2.2.2.2.2.2.1 hP hD hS q0 he hc j hj (X.w hl) (fun x h => by rw [← hr]; exact h) hfin hi hdecl (hty j hj) hn hfit hfl d (fun H1 locs1 hP1 hD1 hS1 => k H1 locs1 ls (by rw [← hw]; exact hP1) (by rw [← hw]; exact hD1) hS1 hL)
theorem g_newq (X : gX V Z own cc nL R) {idx : Nat} {n : Int32} (N' : Nat) (hcl : Cond.classLink own idx RX8 ∈ lw_tbl) (hov : va_AO RX8 Z.2.1.1) (hn : ¬ n < 0) (hN : n.toNatClampNeg = N') (hby : N' * 4 ≤ 536870912) {cs' : Nat × Nat} (hc1 : cs.1 + 1 = cs'.1) (hc2 : cs.2 + N' = cs'.2) (hr1 : cs'.1 ≤ R.cells) (hr2 : cs'.2 ≤ R.slots) (d : decode cc pc = .ok (.anewarray idx, 3)) (k : ∀ q : Nat, G V Z nL cs' (ws ++ [(q, .inl (V.2.2.2, N', .inr (.inr (.inr (.inr (fun _ => none))))))]) (pc + 3) L (.ref q :: st)) : G V Z nL cs ws pc L (.int n :: st) := by
  intro H locs ls hP hD hS hL
  obtain ⟨c1, c2⟩ := cs'
  dsimp only at hc1 hc2 hr1 hr2
  have hR : Z.1.2.2.2 = R := X.2.2.2.2.2.2.2.2.2.1
  refine va_newq X.1 X.2.1 X.2.2.2.1 (X.w hcl) hov X.2.2.2.2.2.2.1 hP hD hS X.2.2.2.2.2.2.2.1 hn hN hby (by rw [hR]; omega) (by rw [hR]; omega) d ?_
  intro q cA H1 hK1 hP1 hD1 hS1
  have e1 : va_RA Z.2.1.1 cA (.object RX8) := (hK1.2 2 (cA, .object RX8) rfl).2
  have e2 : va_RA Z.2.1.1 V.2.2.2 (.object RX8) := (X.2.2.2.2.2.2.1.2 1 (V.2.2.2, .object RX8) rfl).2
  have e3 : cA = V.2.2.2 := by
    obtain ⟨kA, comp, -, -, -, h1⟩ := e1
    obtain ⟨kA', comp', -, -, -, h2⟩ := e2
    rw [h1] at h2
    exact Option.some.inj h2
  subst e3
  rw [hc1, hc2]
  exact k q H1 locs ls hP1 hD1 hS1 hL
theorem g_astq (X : gX V Z own cc nL R) (q0 qk : Nat) {a n v : Nat} {vs : List Value} {f : Nat → Option Nat} (ha : ws[q0]? = some (a, .inl (V.2.2.2, n, .inr (.inr (.inr (.inr f)))))) {T : u_T} {N ci : Nat} (hv : ws[qk]? = some (v, .inr (ci, vs))) (hc : classes[ci]? = some (RX8, T, N)) {i : Int32} (hin : vp_in i n) {ws' : va_W} (hw : ws.set q0 (a, .inl (V.2.2.2, n, .inr (.inr (.inr (.inr (va_up f i.toNatClampNeg (some v))))))) = ws') (d : decode cc pc = .ok (.aastore, 1)) (k : G V Z nL cs ws' (pc + 1) L st) : G V Z nL cs ws pc L (.ref v :: .int i :: .ref a :: st) := fun H locs ls hP hD hS hL => va_astq X.1 X.2.1 X.2.2.2.2.2.2.1 hP hD hS q0 1 qk ci ha rfl hv hc hin d (fun H1 locs1 hP1 hD1 hS1 => k H1 locs1 ls (by rw [← hw]; exact hP1) (by rw [← hw]; exact hD1) hS1 hL)
end GN
