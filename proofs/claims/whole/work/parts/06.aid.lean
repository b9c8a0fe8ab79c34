-- MORE ROWS, numbers, what a method needs of the tables
theorem imin : (-2147483648 : Int32).toInt = -2147483648 := by decide
theorem nIa (a : Nat) (h : a < 2147483648) : (nI a).toInt = (a : Int) := nI_toInt h
theorem tle {a b : Nat} (h : a ≤ b) (ha : a < 2147483648) (hb : b < 2147483648) : nI a ≤ nI b := by rw [Int32.le_iff_toInt_le, nIa a ha, nIa b hb]; omega
theorem tlt {a b : Nat} (h : a < b) (ha : a < 2147483648) (hb : b < 2147483648) : nI a < nI b := by rw [Int32.lt_iff_toInt_lt, nIa a ha, nIa b hb]; omega
theorem fle {a b : Nat} (h : b < a) (ha : a < 2147483648) (hb : b < 2147483648) : ¬ nI a ≤ nI b := by rw [Int32.le_iff_toInt_le, nIa a ha, nIa b hb]; omega
theorem flt {a b : Nat} (h : b ≤ a) (ha : a < 2147483648) (hb : b < 2147483648) : ¬ nI a < nI b := by rw [Int32.lt_iff_toInt_lt, nIa a ha, nIa b hb]; omega
theorem tge {a b : Nat} (h : b ≤ a) (ha : a < 2147483648) (hb : b < 2147483648) : nI b ≤ nI a := tle h hb ha
theorem tgt {a b : Nat} (h : b < a) (ha : a < 2147483648) (hb : b < 2147483648) : nI b < nI a := tlt h hb ha
theorem fge {a b : Nat} (h : a < b) (ha : a < 2147483648) (hb : b < 2147483648) : ¬ nI b ≤ nI a := fle h hb ha
theorem fgt {a b : Nat} (h : a ≤ b) (ha : a < 2147483648) (hb : b < 2147483648) : ¬ nI b < nI a := flt h hb ha
theorem teq {a b : Nat} (h : a = b) (_ : a < 2147483648) (_ : b < 2147483648) : nI a = nI b := by rw [h]
theorem fne {a b : Nat} (h : a = b) (_ : a < 2147483648) (_ : b < 2147483648) : ¬ ¬ nI a = nI b := fun q => q (by rw [h])
theorem feq {a b : Nat} (h : a ≠ b) (ha : a < 2147483648) (hb : b < 2147483648) : ¬ nI a = nI b := fun q => h (by have e := congrArg Int32.toInt q; rw [nIa a ha, nIa b hb] at e; omega)
theorem tne {a b : Nat} (h : a ≠ b) (ha : a < 2147483648) (hb : b < 2147483648) : ¬ nI a = nI b := feq h ha hb
theorem ile' {a b : Nat} (h : nI a ≤ nI b) (ha : a < 2147483648) (hb : b < 2147483648) : a ≤ b := by rcases Nat.lt_or_ge b a with q | q; exact absurd h (fle q ha hb); exact q
theorem ilt' {a b : Nat} (h : nI a < nI b) (ha : a < 2147483648) (hb : b < 2147483648) : a < b := by rcases Nat.lt_or_ge a b with q | q; exact q; exact absurd h (flt q ha hb)
theorem inle' {a b : Nat} (h : ¬ nI a ≤ nI b) (ha : a < 2147483648) (hb : b < 2147483648) : b < a := by rcases Nat.lt_or_ge b a with q | q; exact q; exact absurd (tle q ha hb) h
theorem inlt' {a b : Nat} (h : ¬ nI a < nI b) (ha : a < 2147483648) (hb : b < 2147483648) : b ≤ a := by rcases Nat.lt_or_ge a b with q | q; exact absurd (tlt q ha hb) h; exact q
theorem ige' {a b : Nat} (h : nI b ≤ nI a) (ha : a < 2147483648) (hb : b < 2147483648) : b ≤ a := ile' h hb ha
theorem igt' {a b : Nat} (h : nI b < nI a) (ha : a < 2147483648) (hb : b < 2147483648) : b < a := ilt' h hb ha
theorem inge' {a b : Nat} (h : ¬ nI b ≤ nI a) (ha : a < 2147483648) (hb : b < 2147483648) : a < b := inle' h hb ha
theorem ingt' {a b : Nat} (h : ¬ nI b < nI a) (ha : a < 2147483648) (hb : b < 2147483648) : a ≤ b := inlt' h hb ha
theorem ieq' {a b : Nat} (h : nI a = nI b) (ha : a < 2147483648) (hb : b < 2147483648) : a = b := by have e := congrArg Int32.toInt h; rw [nIa a ha, nIa b hb] at e; omega
theorem ine' {a b : Nat} (h : ¬ nI a = nI b) (_ : a < 2147483648) (_ : b < 2147483648) : a ≠ b := fun q => h (by rw [q])
theorem nI_add' {x y : Int32} {a b : Nat} (hx : x = nI a) (hy : y = nI b) : x + y = nI (a + b) := by rw [hx, hy, nI_add]
theorem nI_mul' {x y : Int32} {a b : Nat} (hx : x = nI a) (hy : y = nI b) : x * y = nI (a * b) := by rw [hx, hy]; exact (Int32.ofNat_mul a b).symm
theorem nI_sub' {x y : Int32} {a b : Nat} (hx : x = nI a) (hy : y = nI b) (h : b ≤ a) : x - y = nI (a - b) := by
  obtain ⟨k, rfl⟩ : ∃ k, a = b + k := ⟨a - b, by omega⟩
  rw [hx, hy, Nat.add_sub_cancel_left, ← nI_add, Int32.add_comm, Int32.add_sub_cancel]
theorem nI_addk {n : Nat} {k : Nat} {z : Int} (h : Int32.ofInt z = nI k) : nI n + Int32.ofInt z = nI (n + k) := by rw [h, nI_add]
theorem nI_tdiv {a b : Nat} (ha : a < 2147483648) (hb : b < 2147483648) (h0 : b ≠ 0) : nI a / nI b = nI (a / b) := by
  apply Int32.toInt_inj.mp
  have h1 : a / b < 2147483648 := Nat.lt_of_le_of_lt (Nat.div_le_self a b) ha
  rw [Int32.toInt_div, nIa a ha, nIa b hb, nIa _ h1, ← Int.ofNat_tdiv]
  generalize a / b = q at *
  rw [Int.bmod_eq_of_le] <;> omega
theorem nI_div' {x y : Int32} {a b : Nat} (hx : x = nI a) (hy : y = nI b) (ha : a < 2147483648) (hb : b < 2147483648) (h0 : b ≠ 0) : x / y = nI (a / b) := by rw [hx, hy, nI_tdiv ha hb h0]
theorem nI_mod' {x y : Int32} {a b : Nat} (hx : x = nI a) (hy : y = nI b) (ha : a < 2147483648) (hb : b < 2147483648) (h0 : b ≠ 0) : x - x / y * y = nI (a % b) := by
  rw [nI_div' hx hy ha hb h0, nI_mul' rfl hy]
  rw [nI_sub' hx rfl (Nat.div_mul_le_self a b)]
  congr 1
  have := Nat.div_add_mod a b
  rw [Nat.mul_comm] at this
  omega
theorem vpin_nI {n N : Nat} (h : n < N) (hN : N < 2147483648) : vp_in (nI n) N := vp_in_nI h hN
theorem clampNeg_nI {n : Nat} (h : n < 2147483648) : (nI n).toNatClampNeg = n := nI_clamp h
def maxF (x y : Int32) : Int32 := if x < y then y else x
def minF (x y : Int32) : Int32 := if y < x then y else x
def absF (x : Int32) : Int32 := if 0 ≤ x then x else 0 - x
theorem gwX0 : (u_ws RX0 TX0 3).all goodWord = true := by decide +kernel
theorem gwX1 : (u_ws RX1 TX1 3).all goodWord = true := by decide +kernel
theorem gwX2 : (u_ws RX2 TX2 3).all goodWord = true := by decide +kernel
theorem gwX3 : (u_ws RX3 TX3 3).all goodWord = true := by decide +kernel
theorem gwX4 : (u_ws RX4 TX4 12).all goodWord = true := by decide +kernel
theorem gwX5 : (u_ws RX5 TX5 2).all goodWord = true := by decide +kernel
theorem gwX6 : (u_ws RX6 TX6 3).all goodWord = true := by decide +kernel
theorem gwX7 : (u_ws RX7 TX7 2).all goodWord = true := by decide +kernel
theorem gwX8 : (u_ws RX8 TX8 4).all goodWord = true := by decide +kernel
theorem gwX9 : (u_ws RX9 TX9 2).all goodWord = true := by decide +kernel
theorem gwX10 : (u_ws RX10 TX10 11).all goodWord = true := by decide +kernel
theorem gwX11 : (u_ws RX11 TX11 31).all goodWord = true := by decide +kernel
theorem lm_max : Cond.static Lib.Math.max.name ∈ lw_tbl ∧ Cond.initialized "java/lang/Math" ∈ lw_tbl ∧ Cond.code Lib.Math.max.name Lib.Math.max.code 2 (some .int) ∈ lw_tbl := ⟨kt_J9_max_7cf53, kn_J9, kc_J9_max_7cf53⟩
theorem lm_min : Cond.static Lib.Math.min.name ∈ lw_tbl ∧ Cond.initialized "java/lang/Math" ∈ lw_tbl ∧ Cond.code Lib.Math.min.name Lib.Math.min.code 2 (some .int) ∈ lw_tbl := ⟨kt_J9_min_7cf53, kn_J9, kc_J9_min_7cf53⟩
theorem lm_abs : Cond.static Lib.Math.abs.name ∈ lw_tbl ∧ Cond.initialized "java/lang/Math" ∈ lw_tbl ∧ Cond.code Lib.Math.abs.name Lib.Math.abs.code 1 (some .int) ∈ lw_tbl := ⟨kt_J9_abs_0f7a4, kn_J9, kc_J9_abs_0f7a4⟩
section GA
variable {V : gV} {Z : gZ} {own : String} {cc : ByteArray} {nL : Nat} {R : Room} {cs : Nat × Nat} {ws : va_W} {pc : Nat} {L : List (Option Value)} {st : List Value}
theorem g_toe {x : Int32} (x' : Int32) (h : x = x') (k : G V Z nL cs ws pc L (.int x' :: st)) : G V Z nL cs ws pc L (.int x :: st) := by rw [h]; exact k
theorem g_iald' (X : gX V Z own cc nL R) (q0 : Nat) {a n : Nat} {f : Nat → Int32} (he : ws[q0]? = some (a, .inl (V.2.2.1, n, .inl f))) {x : Int32} {i : Nat} (hx : x = nI i) (hi : i < n) (hn : n < 2147483648) (d : decode cc pc = .ok (.iaload, 1)) (k : G V Z nL cs ws (pc + 1) L (.int (f i) :: st)) : G V Z nL cs ws pc L (.int x :: .ref a :: st) := by
  subst hx
  refine g_iald X q0 he (vpin_nI hi hn) d ?_
  rw [clampNeg_nI (by omega)]
  exact k
theorem g_iast' (X : gX V Z own cc nL R) (q0 : Nat) {a n : Nat} {f : Nat → Int32} (he : ws[q0]? = some (a, .inl (V.2.2.1, n, .inl f))) {x v : Int32} {i : Nat} (hx : x = nI i) (hi : i < n) (hn : n < 2147483648) {ws' : va_W} (hw : ws.set q0 (a, .inl (V.2.2.1, n, .inl (upd f i v))) = ws') (d : decode cc pc = .ok (.iastore, 1)) (k : G V Z nL cs ws' (pc + 1) L st) : G V Z nL cs ws pc L (.int v :: .int x :: .ref a :: st) := by
  subst hx
  refine g_iast X q0 he (vpin_nI hi hn) (by rw [clampNeg_nI (by omega)]; exact hw) d k
theorem va_P_arr {D : va_G} {cl : List vw_C} {ws : va_W} {H : Heap} (h : va_P D cl ws H) {q0 a n : Nat} {cA : ClassId} {f g : Nat → Int32} (he : ws[q0]? = some (a, .inl (cA, n, .inl f))) (hfg : ∀ j, j < n → f j = g j) : va_P D cl (ws.set q0 (a, .inl (cA, n, .inl g))) H := by
  intro k q hq
  rw [List.getElem?_set] at hq
  split at hq
  · split at hq
    · cases hq
      have h1 : H[a]? = some (vp_cell cA (n, .inl f)) := h q0 _ he
      show H[a]? = some (vp_cell cA (n, .inl g))
      rw [h1]
      congr 1
      show arrV cA n (fun j => .int (f j)) = arrV cA n (fun j => .int (g j))
      rw [arrV, arrV]
      congr 1
      apply Array.ext
      · simp
      · intro i h1 h2
        have hi : i < n := by simpa using h1
        simp [hfg i hi]
    · cases hq
  · exact h k q hq
theorem va_D_set {A : Nat → Prop} {ws : va_W} (h : va_D A ws) {q0 a : Nat} {e e' : va_E} (he : ws[q0]? = some (a, e)) : va_D A (ws.set q0 (a, e')) := by
  have key : ∀ (i : Nat) (p : Nat × va_E), (ws.set q0 (a, e'))[i]? = some p → ∃ p', ws[i]? = some p' ∧ p'.1 = p.1 := by
    intro i p hp
    rw [List.getElem?_set] at hp
    split at hp
    · rename_i hq
      subst hq
      split at hp
      · cases hp
        exact ⟨_, he, rfl⟩
      · cases hp
    · exact ⟨p, hp, rfl⟩
  refine ⟨fun i j p q hp hq hpq => ?_, fun k q hq => ?_⟩
  · obtain ⟨p', h1, h2⟩ := key i p hp
    obtain ⟨q', h3, h4⟩ := key j q hq
    exact h.1 i j p' q' h1 h3 (by rw [h2, h4, hpq])
  · obtain ⟨q', h3, h4⟩ := key k q hq
    rw [← h4]
    exact h.2 k q' h3
/-- an array's contents count as far as its length -/
theorem g_arr (q0 : Nat) {a n : Nat} {f : Nat → Int32} (g : Nat → Int32) (he : ws[q0]? = some (a, .inl (V.2.2.1, n, .inl f))) (hfg : ∀ j, j < n → f j = g j) {ws' : va_W} (hw : ws.set q0 (a, .inl (V.2.2.1, n, .inl g)) = ws') (k : G V Z nL cs ws' pc L st) : G V Z nL cs ws pc L st := by
  subst hw
  exact fun H locs ls hP hD hS hL => k H locs ls (va_P_arr hP he hfg) (va_D_set hD he) hS hL
theorem g_mmax (X : gX V Z own cc nL R) {idx : Nat} {x y : Int32} (hl : Cond.methodLink own idx Lib.Math.max.name ∈ lw_tbl) (d : decode cc pc = .ok (.invokestatic idx, 3)) (h1 : 1 ≤ R.frames) (h2 : (st.map fun v => v.category).sum + 13 ≤ R.locals) (h3 : cs.1 ≤ R.cells) (h4 : cs.2 ≤ R.slots) (k : G V Z nL cs ws (pc + 3) L (.int (maxF x y) :: st)) : G V Z nL cs ws pc L (.int y :: .int x :: st) := fun H locs ls hP hD hS hL => by
  have e := X.2.2.2.2.2.2.2.2.2.1
  exact va_mmax X.1 X.2.1 (X.2.2.1.trans hL.1.symm) X.2.2.2.1 (X.w hl) (X.w lm_max.1) (X.w lm_max.2.1) (X.w lm_max.2.2) (by rw [e]; exact h1) (by rw [e]; exact h2) (by rw [e]; exact h3) (by rw [e]; exact h4) d (k H locs ls hP hD hS hL)
theorem g_mmin (X : gX V Z own cc nL R) {idx : Nat} {x y : Int32} (hl : Cond.methodLink own idx Lib.Math.min.name ∈ lw_tbl) (d : decode cc pc = .ok (.invokestatic idx, 3)) (h1 : 1 ≤ R.frames) (h2 : (st.map fun v => v.category).sum + 13 ≤ R.locals) (h3 : cs.1 ≤ R.cells) (h4 : cs.2 ≤ R.slots) (k : G V Z nL cs ws (pc + 3) L (.int (minF x y) :: st)) : G V Z nL cs ws pc L (.int y :: .int x :: st) := fun H locs ls hP hD hS hL => by
  have e := X.2.2.2.2.2.2.2.2.2.1
  exact va_mmin X.1 X.2.1 (X.2.2.1.trans hL.1.symm) X.2.2.2.1 (X.w hl) (X.w lm_min.1) (X.w lm_min.2.1) (X.w lm_min.2.2) (by rw [e]; exact h1) (by rw [e]; exact h2) (by rw [e]; exact h3) (by rw [e]; exact h4) d (k H locs ls hP hD hS hL)
theorem g_mabs (X : gX V Z own cc nL R) {idx : Nat} {x : Int32} (hl : Cond.methodLink own idx Lib.Math.abs.name ∈ lw_tbl) (d : decode cc pc = .ok (.invokestatic idx, 3)) (h1 : 1 ≤ R.frames) (h2 : (st.map fun v => v.category).sum + 13 ≤ R.locals) (h3 : cs.1 ≤ R.cells) (h4 : cs.2 ≤ R.slots) (k : G V Z nL cs ws (pc + 3) L (.int (absF x) :: st)) : G V Z nL cs ws pc L (.int x :: st) := fun H locs ls hP hD hS hL => by
  have e := X.2.2.2.2.2.2.2.2.2.1
  exact va_mabs X.1 X.2.1 (X.2.2.1.trans hL.1.symm) X.2.2.2.1 (X.w hl) (X.w lm_abs.1) (X.w lm_abs.2.1) (X.w lm_abs.2.2) (by rw [e]; exact h1) (by rw [e]; exact h2) (by rw [e]; exact h3) (by rw [e]; exact h4) d (k H locs ls hP hD hS hL)
theorem g_lookup (X : gX V Z own cc nL R) {dflt : Int} {ps : Array (Int × Int)} {len : Nat} {x : Int32} (tgt : Nat) {off : Int} (d : decode cc pc = .ok (.lookupswitch dflt ps, len)) (hp : (ps.toList.zip (ps.toList.drop 1)).all (fun (a, next) => a.1 < next.1) = true) (ho : Op.lookupswitch.offset ps.toList dflt x.toInt = off) (ht : (pc : Int) + off = (tgt : Int)) (k : G V Z nL cs ws tgt L st) : G V Z nL cs ws pc L (.int x :: st) := fun H locs ls hP hD hS hL => lv_lookup X.1 X.2.1 d hp ho ht (k H locs ls hP hD hS hL)
theorem g_tableOut (X : gX V Z own cc nL R) {dflt lo hi : Int} {offs : Array Int} {len : Nat} {x : Int32} (tgt : Nat) (d : decode cc pc = .ok (.tableswitch dflt lo hi offs, len)) (h : x.toInt < lo ∨ hi < x.toInt) (ht : (pc : Int) + dflt = (tgt : Int)) (k : G V Z nL cs ws tgt L st) : G V Z nL cs ws pc L (.int x :: st) := fun H locs ls hP hD hS hL => lv_tableOut X.1 X.2.1 d h ht (k H locs ls hP hD hS hL)
theorem g_tableIn (X : gX V Z own cc nL R) {dflt lo hi : Int} {offs : Array Int} {len : Nat} {x : Int32} {off : Int} (tgt : Nat) (d : decode cc pc = .ok (.tableswitch dflt lo hi offs, len)) (h1 : ¬ x.toInt < lo) (h2 : ¬ hi < x.toInt) (ho : offs[(x.toInt - lo).toNat]? = some off) (ht : (pc : Int) + off = (tgt : Int)) (k : G V Z nL cs ws tgt L st) : G V Z nL cs ws pc L (.int x :: st) := fun H locs ls hP hD hS hL => lv_tableIn X.1 X.2.1 d h1 h2 ho ht (k H locs ls hP hD hS hL)
end GA
theorem mo_J0_charAt_5068e : MV yJ0_charAt_5068e cJ0_charAt_5068e 2 (some .char) 1 := ⟨kc_J0_charAt_5068e, kn_J0, by decide +kernel, ki_J0_charAt_5068e, ks_J0_charAt_5068e⟩
theorem mo_J0_checkIndex_df160 : MS yJ0_checkIndex_df160 cJ0_checkIndex_df160 2 none 2 := ⟨kc_J0_checkIndex_df160, kn_J0, by decide +kernel, kt_J0_checkIndex_df160⟩
theorem mo_J0_coder_7d493 : MV yJ0_coder_7d493 cJ0_coder_7d493 1 (some .byte) 0 := ⟨kc_J0_coder_7d493, kn_J0, by decide +kernel, ki_J0_coder_7d493, ks_J0_coder_7d493⟩
theorem mo_J0_isLatin1_aae02 : MV yJ0_isLatin1_aae02 cJ0_isLatin1_aae02 1 (some .boolean) 0 := ⟨kc_J0_isLatin1_aae02, kn_J0, by decide +kernel, ki_J0_isLatin1_aae02, ks_J0_isLatin1_aae02⟩
theorem mo_J0_length_8abf5 : MV yJ0_length_8abf5 cJ0_length_8abf5 1 (some .int) 0 := ⟨kc_J0_length_8abf5, kn_J0, by decide +kernel, ki_J0_length_8abf5, ks_J0_length_8abf5⟩
theorem mo_J1_charAt_3b067 : MS yJ1_charAt_3b067 cJ1_charAt_3b067 2 (some .char) 2 := ⟨kc_J1_charAt_3b067, kn_J1, by decide +kernel, kt_J1_charAt_3b067⟩
theorem mo_J2_charAt_3b067 : MS yJ2_charAt_3b067 cJ2_charAt_3b067 2 (some .char) 2 := ⟨kc_J2_charAt_3b067, kn_J2, by decide +kernel, kt_J2_charAt_3b067⟩
theorem mo_J2_checkIndex_2214a : MS yJ2_checkIndex_2214a cJ2_checkIndex_2214a 2 none 2 := ⟨kc_J2_checkIndex_2214a, kn_J2, by decide +kernel, kt_J2_checkIndex_2214a⟩
theorem mo_J2_getChar_3b067 : MS yJ2_getChar_3b067 cJ2_getChar_3b067 2 (some .char) 2 := ⟨kc_J2_getChar_3b067, kn_J2, by decide +kernel, kt_J2_getChar_3b067⟩
theorem mo_J2_length_9d52b : MS yJ2_length_9d52b cJ2_length_9d52b 1 (some .int) 1 := ⟨kc_J2_length_9d52b, kn_J2, by decide +kernel, kt_J2_length_9d52b⟩
theorem mo_J3_checkIndex_8e157 : MS yJ3_checkIndex_8e157 cJ3_checkIndex_8e157 3 (some .int) 3 := ⟨kc_J3_checkIndex_8e157, kn_J3, by decide +kernel, kt_J3_checkIndex_8e157⟩
theorem mo_J6_bitCount_0f7a4 : MS yJ6_bitCount_0f7a4 cJ6_bitCount_0f7a4 1 (some .int) 1 := ⟨kc_J6_bitCount_0f7a4, kn_J6, by decide +kernel, kt_J6_bitCount_0f7a4⟩
theorem mo_J9_abs_0f7a4 : MS yJ9_abs_0f7a4 cJ9_abs_0f7a4 1 (some .int) 1 := ⟨kc_J9_abs_0f7a4, kn_J9, by decide +kernel, kt_J9_abs_0f7a4⟩
theorem mo_J9_max_7cf53 : MS yJ9_max_7cf53 cJ9_max_7cf53 2 (some .int) 2 := ⟨kc_J9_max_7cf53, kn_J9, by decide +kernel, kt_J9_max_7cf53⟩
theorem mo_J9_min_7cf53 : MS yJ9_min_7cf53 cJ9_min_7cf53 2 (some .int) 2 := ⟨kc_J9_min_7cf53, kn_J9, by decide +kernel, kt_J9_min_7cf53⟩
theorem mo_X0_comesAt : MV yX0_comesAt cX0_comesAt 2 (some .int) 1 := ⟨kc_X0_comesAt, kn_X0, by decide +kernel, ki_X0_comesAt, ks_X0_comesAt⟩
theorem mo_X0_init : MI yX0_init cX0_init 1 0 := ⟨kc_X0_init, kn_X0, by decide +kernel, ki_X0_init, rfl⟩
theorem mo_X0_orderAsChosen : MV yX0_orderAsChosen cX0_orderAsChosen 5 none 1 := ⟨kc_X0_orderAsChosen, kn_X0, by decide +kernel, ki_X0_orderAsChosen, ks_X0_orderAsChosen⟩
theorem mo_X0_seek : MV yX0_seek cX0_seek 6 none 2 := ⟨kc_X0_seek, kn_X0, by decide +kernel, ki_X0_seek, ks_X0_seek⟩
theorem mo_X10_at : MS yX10_at cX10_at 2 (some .int) 2 := ⟨kc_X10_at, kn_X10, by decide +kernel, kt_X10_at⟩
theorem mo_X10_back : MV yX10_back cX10_back 1 (some .int) 0 := ⟨kc_X10_back, kn_X10, by decide +kernel, ki_X10_back, ks_X10_back⟩
theorem mo_X10_behind : MV yX10_behind cX10_behind 3 (some .int) 2 := ⟨kc_X10_behind, kn_X10, by decide +kernel, ki_X10_behind, ks_X10_behind⟩
theorem mo_X10_child : MV yX10_child cX10_child 6 (some .int) 1 := ⟨kc_X10_child, kn_X10, by decide +kernel, ki_X10_child, ks_X10_child⟩
theorem mo_X10_clock : MV yX10_clock cX10_clock 3 (some .int) 2 := ⟨kc_X10_clock, kn_X10, by decide +kernel, ki_X10_clock, ks_X10_clock⟩
theorem mo_X10_count : MV yX10_count cX10_count 2 (some .int) 1 := ⟨kc_X10_count, kn_X10, by decide +kernel, ki_X10_count, ks_X10_count⟩
theorem mo_X10_draughts : MV yX10_draughts cX10_draughts 10 (some .int) 4 := ⟨kc_X10_draughts, kn_X10, by decide +kernel, ki_X10_draughts, ks_X10_draughts⟩
theorem mo_X10_draw : MS yX10_draw cX10_draw 4 (some .int) 2 := ⟨kc_X10_draw, kn_X10, by decide +kernel, kt_X10_draw⟩
theorem mo_X10_dull : MV yX10_dull cX10_dull 3 (some .int) 0 := ⟨kc_X10_dull, kn_X10, by decide +kernel, ki_X10_dull, ks_X10_dull⟩
theorem mo_X10_fault : MV yX10_fault cX10_fault 1 (some .int) 0 := ⟨kc_X10_fault, kn_X10, by decide +kernel, ki_X10_fault, ks_X10_fault⟩
theorem mo_X10_forget : MV yX10_forget cX10_forget 2 (some .int) 0 := ⟨kc_X10_forget, kn_X10, by decide +kernel, ki_X10_forget, ks_X10_forget⟩
theorem mo_X10_hear : MV yX10_hear cX10_hear 3 (some .int) 2 := ⟨kc_X10_hear, kn_X10, by decide +kernel, ki_X10_hear, ks_X10_hear⟩
theorem mo_X10_init : MI yX10_init cX10_init 2 0 := ⟨kc_X10_init, kn_X10, by decide +kernel, ki_X10_init, rfl⟩
theorem mo_X10_isHeardWhenTaught : MV yX10_isHeardWhenTaught cX10_isHeardWhenTaught 5 (some .boolean) 2 := ⟨kc_X10_isHeardWhenTaught, kn_X10, by decide +kernel, ki_X10_isHeardWhenTaught, ks_X10_isHeardWhenTaught⟩
theorem mo_X10_keep : MV yX10_keep cX10_keep 1 (some .int) 0 := ⟨kc_X10_keep, kn_X10, by decide +kernel, ki_X10_keep, ks_X10_keep⟩
theorem mo_X10_lay : MV yX10_lay cX10_lay 1 (some .int) 0 := ⟨kc_X10_lay, kn_X10, by decide +kernel, ki_X10_lay, ks_X10_lay⟩
theorem mo_X10_lessonNumber : MS yX10_lessonNumber cX10_lessonNumber 2 (some .int) 2 := ⟨kc_X10_lessonNumber, kn_X10, by decide +kernel, kt_X10_lessonNumber⟩
theorem mo_X10_noon : MV yX10_noon cX10_noon 1 (some .int) 0 := ⟨kc_X10_noon, kn_X10, by decide +kernel, ki_X10_noon, ks_X10_noon⟩
theorem mo_X10_oil : MV yX10_oil cX10_oil 2 (some .int) 1 := ⟨kc_X10_oil, kn_X10, by decide +kernel, ki_X10_oil, ks_X10_oil⟩
theorem mo_X10_oils : MV yX10_oils cX10_oils 6 (some .int) 3 := ⟨kc_X10_oils, kn_X10, by decide +kernel, ki_X10_oils, ks_X10_oils⟩
theorem mo_X10_pairs : MV yX10_pairs cX10_pairs 2 (some .int) 1 := ⟨kc_X10_pairs, kn_X10, by decide +kernel, ki_X10_pairs, ks_X10_pairs⟩
theorem mo_X10_partInLowestTerms : MS yX10_partInLowestTerms cX10_partInLowestTerms 5 (some .int) 3 := ⟨kc_X10_partInLowestTerms, kn_X10, by decide +kernel, kt_X10_partInLowestTerms⟩
theorem mo_X10_pass : MV yX10_pass cX10_pass 2 (some .int) 1 := ⟨kc_X10_pass, kn_X10, by decide +kernel, ki_X10_pass, ks_X10_pass⟩
theorem mo_X10_put : MS yX10_put cX10_put 3 none 3 := ⟨kc_X10_put, kn_X10, by decide +kernel, kt_X10_put⟩
theorem mo_X10_right : MV yX10_right cX10_right 3 (some .int) 2 := ⟨kc_X10_right, kn_X10, by decide +kernel, ki_X10_right, ks_X10_right⟩
theorem mo_X10_ring : MV yX10_ring cX10_ring 2 (some .int) 1 := ⟨kc_X10_ring, kn_X10, by decide +kernel, ki_X10_ring, ks_X10_ring⟩
theorem mo_X10_set : MV yX10_set cX10_set 3 (some .int) 1 := ⟨kc_X10_set, kn_X10, by decide +kernel, ki_X10_set, ks_X10_set⟩
theorem mo_X10_setter : MV yX10_setter cX10_setter 5 (some .int) 1 := ⟨kc_X10_setter, kn_X10, by decide +kernel, ki_X10_setter, ks_X10_setter⟩
theorem mo_X10_taught : MV yX10_taught cX10_taught 6 (some .int) 1 := ⟨kc_X10_taught, kn_X10, by decide +kernel, ki_X10_taught, ks_X10_taught⟩
theorem mo_X10_teach : MV yX10_teach cX10_teach 3 (some .int) 2 := ⟨kc_X10_teach, kn_X10, by decide +kernel, ki_X10_teach, ks_X10_teach⟩
theorem mo_X10_undo : MV yX10_undo cX10_undo 1 (some .int) 0 := ⟨kc_X10_undo, kn_X10, by decide +kernel, ki_X10_undo, ks_X10_undo⟩
theorem mo_X10_wall : MV yX10_wall cX10_wall 3 (some .int) 2 := ⟨kc_X10_wall, kn_X10, by decide +kernel, ki_X10_wall, ks_X10_wall⟩
theorem mo_X10_wipe : MV yX10_wipe cX10_wipe 2 (some .int) 0 := ⟨kc_X10_wipe, kn_X10, by decide +kernel, ki_X10_wipe, ks_X10_wipe⟩
theorem mo_X10_write : MV yX10_write cX10_write 2 (some .int) 1 := ⟨kc_X10_write, kn_X10, by decide +kernel, ki_X10_write, ks_X10_write⟩
theorem mo_X10_year : MV yX10_year cX10_year 9 (some .int) 3 := ⟨kc_X10_year, kn_X10, by decide +kernel, ki_X10_year, ks_X10_year⟩
theorem mo_X11_allWrong : MV yX11_allWrong cX11_allWrong 4 (some .int) 1 := ⟨kc_X11_allWrong, kn_X11, by decide +kernel, ki_X11_allWrong, ks_X11_allWrong⟩
theorem mo_X11_areRight : MV yX11_areRight cX11_areRight 5 (some .boolean) 2 := ⟨kc_X11_areRight, kn_X11, by decide +kernel, ki_X11_areRight, ks_X11_areRight⟩
theorem mo_X11_back : MV yX11_back cX11_back 1 (some .int) 0 := ⟨kc_X11_back, kn_X11, by decide +kernel, ki_X11_back, ks_X11_back⟩
theorem mo_X11_behind : MV yX11_behind cX11_behind 4 (some .int) 2 := ⟨kc_X11_behind, kn_X11, by decide +kernel, ki_X11_behind, ks_X11_behind⟩
theorem mo_X11_bits : MS yX11_bits cX11_bits 3 (some .int) 1 := ⟨kc_X11_bits, kn_X11, by decide +kernel, kt_X11_bits⟩
theorem mo_X11_bound : MS yX11_bound cX11_bound 1 (some .int) 1 := ⟨kc_X11_bound, kn_X11, by decide +kernel, kt_X11_bound⟩
theorem mo_X11_child : MV yX11_child cX11_child 6 (some .int) 1 := ⟨kc_X11_child, kn_X11, by decide +kernel, ki_X11_child, ks_X11_child⟩
theorem mo_X11_clock : MV yX11_clock cX11_clock 3 (some .int) 2 := ⟨kc_X11_clock, kn_X11, by decide +kernel, ki_X11_clock, ks_X11_clock⟩
theorem mo_X11_copy : MS yX11_copy cX11_copy 5 none 4 := ⟨kc_X11_copy, kn_X11, by decide +kernel, kt_X11_copy⟩
theorem mo_X11_count : MV yX11_count cX11_count 4 (some .int) 1 := ⟨kc_X11_count, kn_X11, by decide +kernel, ki_X11_count, ks_X11_count⟩
theorem mo_X11_draughts : MV yX11_draughts cX11_draughts 10 (some .int) 4 := ⟨kc_X11_draughts, kn_X11, by decide +kernel, ki_X11_draughts, ks_X11_draughts⟩
theorem mo_X11_dull : MV yX11_dull cX11_dull 5 (some .int) 0 := ⟨kc_X11_dull, kn_X11, by decide +kernel, ki_X11_dull, ks_X11_dull⟩
theorem mo_X11_far : MS yX11_far cX11_far 1 (some .int) 1 := ⟨kc_X11_far, kn_X11, by decide +kernel, kt_X11_far⟩
theorem mo_X11_fault : MV yX11_fault cX11_fault 1 (some .int) 0 := ⟨kc_X11_fault, kn_X11, by decide +kernel, ki_X11_fault, ks_X11_fault⟩
theorem mo_X11_forget : MV yX11_forget cX11_forget 2 (some .int) 0 := ⟨kc_X11_forget, kn_X11, by decide +kernel, ki_X11_forget, ks_X11_forget⟩
theorem mo_X11_has : MS yX11_has cX11_has 2 (some .boolean) 2 := ⟨kc_X11_has, kn_X11, by decide +kernel, kt_X11_has⟩
theorem mo_X11_hear : MV yX11_hear cX11_hear 3 (some .int) 2 := ⟨kc_X11_hear, kn_X11, by decide +kernel, ki_X11_hear, ks_X11_hear⟩
theorem mo_X11_hearOn : MV yX11_hearOn cX11_hearOn 7 none 3 := ⟨kc_X11_hearOn, kn_X11, by decide +kernel, ki_X11_hearOn, ks_X11_hearOn⟩
theorem mo_X11_in : MS yX11_in cX11_in 3 (some .boolean) 3 := ⟨kc_X11_in, kn_X11, by decide +kernel, kt_X11_in⟩
theorem mo_X11_init : MI yX11_init cX11_init 1 0 := ⟨kc_X11_init, kn_X11, by decide +kernel, ki_X11_init, rfl⟩
theorem mo_X11_isClock : MV yX11_isClock cX11_isClock 2 (some .boolean) 1 := ⟨kc_X11_isClock, kn_X11, by decide +kernel, ki_X11_isClock, ks_X11_isClock⟩
theorem mo_X11_isItem : MV yX11_isItem cX11_isItem 2 (some .boolean) 0 := ⟨kc_X11_isItem, kn_X11, by decide +kernel, ki_X11_isItem, ks_X11_isItem⟩
theorem mo_X11_isRead : MV yX11_isRead cX11_isRead 1 (some .boolean) 0 := ⟨kc_X11_isRead, kn_X11, by decide +kernel, ki_X11_isRead, ks_X11_isRead⟩
theorem mo_X11_isRow : MV yX11_isRow cX11_isRow 5 (some .boolean) 1 := ⟨kc_X11_isRow, kn_X11, by decide +kernel, ki_X11_isRow, ks_X11_isRow⟩
theorem mo_X11_isSo : MV yX11_isSo cX11_isSo 4 (some .boolean) 1 := ⟨kc_X11_isSo, kn_X11, by decide +kernel, ki_X11_isSo, ks_X11_isSo⟩
theorem mo_X11_isTaught : MV yX11_isTaught cX11_isTaught 3 (some .boolean) 2 := ⟨kc_X11_isTaught, kn_X11, by decide +kernel, ki_X11_isTaught, ks_X11_isTaught⟩
theorem mo_X11_keep : MV yX11_keep cX11_keep 1 (some .int) 0 := ⟨kc_X11_keep, kn_X11, by decide +kernel, ki_X11_keep, ks_X11_keep⟩
theorem mo_X11_lay : MV yX11_lay cX11_lay 1 (some .int) 0 := ⟨kc_X11_lay, kn_X11, by decide +kernel, ki_X11_lay, ks_X11_lay⟩
theorem mo_X11_layClock : MV yX11_layClock cX11_layClock 5 none 4 := ⟨kc_X11_layClock, kn_X11, by decide +kernel, ki_X11_layClock, ks_X11_layClock⟩
theorem mo_X11_layLesson : MV yX11_layLesson cX11_layLesson 5 none 4 := ⟨kc_X11_layLesson, kn_X11, by decide +kernel, ki_X11_layLesson, ks_X11_layLesson⟩
theorem mo_X11_layOrder : MV yX11_layOrder cX11_layOrder 8 none 1 := ⟨kc_X11_layOrder, kn_X11, by decide +kernel, ki_X11_layOrder, ks_X11_layOrder⟩
theorem mo_X11_layPairs : MV yX11_layPairs cX11_layPairs 15 (some .int) 0 := ⟨kc_X11_layPairs, kn_X11, by decide +kernel, ki_X11_layPairs, ks_X11_layPairs⟩
theorem mo_X11_layRead : MV yX11_layRead cX11_layRead 2 none 0 := ⟨kc_X11_layRead, kn_X11, by decide +kernel, ki_X11_layRead, ks_X11_layRead⟩
theorem mo_X11_layRight : MV yX11_layRight cX11_layRight 4 none 1 := ⟨kc_X11_layRight, kn_X11, by decide +kernel, ki_X11_layRight, ks_X11_layRight⟩
theorem mo_X11_layWall : MV yX11_layWall cX11_layWall 3 none 2 := ⟨kc_X11_layWall, kn_X11, by decide +kernel, ki_X11_layWall, ks_X11_layWall⟩
theorem mo_X11_letterAt : MV yX11_letterAt cX11_letterAt 2 (some .int) 1 := ⟨kc_X11_letterAt, kn_X11, by decide +kernel, ki_X11_letterAt, ks_X11_letterAt⟩
theorem mo_X11_noon : MV yX11_noon cX11_noon 1 (some .int) 0 := ⟨kc_X11_noon, kn_X11, by decide +kernel, ki_X11_noon, ks_X11_noon⟩
theorem mo_X11_noonOf : MV yX11_noonOf cX11_noonOf 4 (some .int) 1 := ⟨kc_X11_noonOf, kn_X11, by decide +kernel, ki_X11_noonOf, ks_X11_noonOf⟩
theorem mo_X11_note : MV yX11_note cX11_note 2 none 0 := ⟨kc_X11_note, kn_X11, by decide +kernel, ki_X11_note, ks_X11_note⟩
theorem mo_X11_oil : MV yX11_oil cX11_oil 2 (some .int) 1 := ⟨kc_X11_oil, kn_X11, by decide +kernel, ki_X11_oil, ks_X11_oil⟩
theorem mo_X11_oils : MV yX11_oils cX11_oils 7 (some .int) 3 := ⟨kc_X11_oils, kn_X11, by decide +kernel, ki_X11_oils, ks_X11_oils⟩
theorem mo_X11_pairs : MV yX11_pairs cX11_pairs 3 (some .int) 1 := ⟨kc_X11_pairs, kn_X11, by decide +kernel, ki_X11_pairs, ks_X11_pairs⟩
theorem mo_X11_pass : MV yX11_pass cX11_pass 3 (some .int) 1 := ⟨kc_X11_pass, kn_X11, by decide +kernel, ki_X11_pass, ks_X11_pass⟩
theorem mo_X11_passOn : MV yX11_passOn cX11_passOn 5 none 2 := ⟨kc_X11_passOn, kn_X11, by decide +kernel, ki_X11_passOn, ks_X11_passOn⟩
theorem mo_X11_right : MV yX11_right cX11_right 3 (some .int) 2 := ⟨kc_X11_right, kn_X11, by decide +kernel, ki_X11_right, ks_X11_right⟩
theorem mo_X11_rightOf : MV yX11_rightOf cX11_rightOf 4 (some .int) 1 := ⟨kc_X11_rightOf, kn_X11, by decide +kernel, ki_X11_rightOf, ks_X11_rightOf⟩
theorem mo_X11_ring : MV yX11_ring cX11_ring 7 (some .int) 1 := ⟨kc_X11_ring, kn_X11, by decide +kernel, ki_X11_ring, ks_X11_ring⟩
theorem mo_X11_set : MV yX11_set cX11_set 3 (some .int) 1 := ⟨kc_X11_set, kn_X11, by decide +kernel, ki_X11_set, ks_X11_set⟩
theorem mo_X11_setter : MV yX11_setter cX11_setter 6 (some .int) 1 := ⟨kc_X11_setter, kn_X11, by decide +kernel, ki_X11_setter, ks_X11_setter⟩
theorem mo_X11_taught : MV yX11_taught cX11_taught 5 (some .int) 1 := ⟨kc_X11_taught, kn_X11, by decide +kernel, ki_X11_taught, ks_X11_taught⟩
theorem mo_X11_teach : MV yX11_teach cX11_teach 3 (some .int) 2 := ⟨kc_X11_teach, kn_X11, by decide +kernel, ki_X11_teach, ks_X11_teach⟩
theorem mo_X11_teachOn : MV yX11_teachOn cX11_teachOn 6 none 3 := ⟨kc_X11_teachOn, kn_X11, by decide +kernel, ki_X11_teachOn, ks_X11_teachOn⟩
theorem mo_X11_teaches : MV yX11_teaches cX11_teaches 5 (some .boolean) 2 := ⟨kc_X11_teaches, kn_X11, by decide +kernel, ki_X11_teaches, ks_X11_teaches⟩
theorem mo_X11_undo : MV yX11_undo cX11_undo 1 (some .int) 0 := ⟨kc_X11_undo, kn_X11, by decide +kernel, ki_X11_undo, ks_X11_undo⟩
theorem mo_X11_wall : MV yX11_wall cX11_wall 3 (some .int) 2 := ⟨kc_X11_wall, kn_X11, by decide +kernel, ki_X11_wall, ks_X11_wall⟩
theorem mo_X11_wipe : MV yX11_wipe cX11_wipe 2 (some .int) 0 := ⟨kc_X11_wipe, kn_X11, by decide +kernel, ki_X11_wipe, ks_X11_wipe⟩
theorem mo_X11_write : MV yX11_write cX11_write 2 (some .int) 1 := ⟨kc_X11_write, kn_X11, by decide +kernel, ki_X11_write, ks_X11_write⟩
theorem mo_X11_year : MV yX11_year cX11_year 8 (some .int) 3 := ⟨kc_X11_year, kn_X11, by decide +kernel, ki_X11_year, ks_X11_year⟩
theorem mo_X1_init : MI yX1_init cX1_init 1 0 := ⟨kc_X1_init, kn_X1, by decide +kernel, ki_X1_init, rfl⟩
theorem mo_X1_mateOf : MV yX1_mateOf cX1_mateOf 2 (some .int) 1 := ⟨kc_X1_mateOf, kn_X1, by decide +kernel, ki_X1_mateOf, ks_X1_mateOf⟩
theorem mo_X1_pairAsChosen : MV yX1_pairAsChosen cX1_pairAsChosen 9 (some .int) 3 := ⟨kc_X1_pairAsChosen, kn_X1, by decide +kernel, ki_X1_pairAsChosen, ks_X1_pairAsChosen⟩
theorem mo_X1_seek : MV yX1_seek cX1_seek 5 none 1 := ⟨kc_X1_seek, kn_X1, by decide +kernel, ki_X1_seek, ks_X1_seek⟩
theorem mo_X2_addBound : MV yX2_addBound cX2_addBound 2 none 1 := ⟨kc_X2_addBound, kn_X2, by decide +kernel, ki_X2_addBound, ks_X2_addBound⟩
theorem mo_X2_advance : MV yX2_advance cX2_advance 2 (some .boolean) 0 := ⟨kc_X2_advance, kn_X2, by decide +kernel, ki_X2_advance, ks_X2_advance⟩
theorem mo_X2_choice : MV yX2_choice cX2_choice 2 (some .int) 1 := ⟨kc_X2_choice, kn_X2, by decide +kernel, ki_X2_choice, ks_X2_choice⟩
theorem mo_X2_clear : MV yX2_clear cX2_clear 1 none 0 := ⟨kc_X2_clear, kn_X2, by decide +kernel, ki_X2_clear, ks_X2_clear⟩
theorem mo_X2_free : MS yX2_free cX2_free 4 (some .int) 2 := ⟨kc_X2_free, kn_X2, by decide +kernel, kt_X2_free⟩
theorem mo_X2_init : MI yX2_init cX2_init 1 0 := ⟨kc_X2_init, kn_X2, by decide +kernel, ki_X2_init, rfl⟩
theorem mo_X3_init : MI yX3_init cX3_init 1 0 := ⟨kc_X3_init, kn_X3, by decide +kernel, ki_X3_init, rfl⟩
theorem mo_X3_oneLesson : MS yX3_oneLesson cX3_oneLesson 7 (some .int) 2 := ⟨kc_X3_oneLesson, kn_X3, by decide +kernel, kt_X3_oneLesson⟩
theorem mo_X3_seek : MV yX3_seek cX3_seek 3 none 2 := ⟨kc_X3_seek, kn_X3, by decide +kernel, ki_X3_seek, ks_X3_seek⟩
theorem mo_X3_seekTwo : MV yX3_seekTwo cX3_seekTwo 7 none 2 := ⟨kc_X3_seekTwo, kn_X3, by decide +kernel, ki_X3_seekTwo, ks_X3_seekTwo⟩
theorem mo_X4_hasBoth : MV yX4_hasBoth cX4_hasBoth 3 (some .boolean) 2 := ⟨kc_X4_hasBoth, kn_X4, by decide +kernel, ki_X4_hasBoth, ks_X4_hasBoth⟩
theorem mo_X4_hasClock : MV yX4_hasClock cX4_hasClock 2 (some .boolean) 1 := ⟨kc_X4_hasClock, kn_X4, by decide +kernel, ki_X4_hasClock, ks_X4_hasClock⟩
theorem mo_X4_hasWall : MV yX4_hasWall cX4_hasWall 3 (some .boolean) 2 := ⟨kc_X4_hasWall, kn_X4, by decide +kernel, ki_X4_hasWall, ks_X4_hasWall⟩
theorem mo_X4_init : MI yX4_init cX4_init 1 0 := ⟨kc_X4_init, kn_X4, by decide +kernel, ki_X4_init, rfl⟩
theorem mo_X4_kindOf : MV yX4_kindOf cX4_kindOf 2 (some .int) 1 := ⟨kc_X4_kindOf, kn_X4, by decide +kernel, ki_X4_kindOf, ks_X4_kindOf⟩
theorem mo_X4_readFrom : MV yX4_readFrom cX4_readFrom 5 (some .int) 1 := ⟨kc_X4_readFrom, kn_X4, by decide +kernel, ki_X4_readFrom, ks_X4_readFrom⟩
theorem mo_X4_readNumbers : MV yX4_readNumbers cX4_readNumbers 7 (some .int) 2 := ⟨kc_X4_readNumbers, kn_X4, by decide +kernel, ki_X4_readNumbers, ks_X4_readNumbers⟩
theorem mo_X4_takeClock : MV yX4_takeClock cX4_takeClock 4 (some .boolean) 3 := ⟨kc_X4_takeClock, kn_X4, by decide +kernel, ki_X4_takeClock, ks_X4_takeClock⟩
theorem mo_X4_takeItem : MV yX4_takeItem cX4_takeItem 5 (some .boolean) 1 := ⟨kc_X4_takeItem, kn_X4, by decide +kernel, ki_X4_takeItem, ks_X4_takeItem⟩
theorem mo_X4_takeLesson : MV yX4_takeLesson cX4_takeLesson 4 (some .boolean) 3 := ⟨kc_X4_takeLesson, kn_X4, by decide +kernel, ki_X4_takeLesson, ks_X4_takeLesson⟩
theorem mo_X4_takeWall : MV yX4_takeWall cX4_takeWall 3 (some .boolean) 2 := ⟨kc_X4_takeWall, kn_X4, by decide +kernel, ki_X4_takeWall, ks_X4_takeWall⟩
theorem mo_X4_wallsOf : MV yX4_wallsOf cX4_wallsOf 2 (some .int) 1 := ⟨kc_X4_wallsOf, kn_X4, by decide +kernel, ki_X4_wallsOf, ks_X4_wallsOf⟩
theorem mo_X5_clear : MV yX5_clear cX5_clear 1 none 0 := ⟨kc_X5_clear, kn_X5, by decide +kernel, ki_X5_clear, ks_X5_clear⟩
theorem mo_X5_init : MI yX5_init cX5_init 1 0 := ⟨kc_X5_init, kn_X5, by decide +kernel, ki_X5_init, rfl⟩
theorem mo_X5_offer : MV yX5_offer cX5_offer 4 none 2 := ⟨kc_X5_offer, kn_X5, by decide +kernel, ki_X5_offer, ks_X5_offer⟩
theorem mo_X6_add : MV yX6_add cX6_add 3 none 2 := ⟨kc_X6_add, kn_X6, by decide +kernel, ki_X6_add, ks_X6_add⟩
theorem mo_X6_fit : MV yX6_fit cX6_fit 3 (some .boolean) 1 := ⟨kc_X6_fit, kn_X6, by decide +kernel, ki_X6_fit, ks_X6_fit⟩
theorem mo_X6_init : MI yX6_init cX6_init 1 0 := ⟨kc_X6_init, kn_X6, by decide +kernel, ki_X6_init, rfl⟩
theorem mo_X7_add : MV yX7_add cX7_add 2 none 1 := ⟨kc_X7_add, kn_X7, by decide +kernel, ki_X7_add, ks_X7_add⟩
theorem mo_X7_dropOldest : MV yX7_dropOldest cX7_dropOldest 2 none 0 := ⟨kc_X7_dropOldest, kn_X7, by decide +kernel, ki_X7_dropOldest, ks_X7_dropOldest⟩
theorem mo_X7_init : MI yX7_init cX7_init 4 2 := ⟨kc_X7_init, kn_X7, by decide +kernel, ki_X7_init, rfl⟩
theorem mo_X7_takeLatest : MV yX7_takeLatest cX7_takeLatest 3 none 1 := ⟨kc_X7_takeLatest, kn_X7, by decide +kernel, ki_X7_takeLatest, ks_X7_takeLatest⟩
theorem mo_X8_begin : MV yX8_begin cX8_begin 2 none 0 := ⟨kc_X8_begin, kn_X8, by decide +kernel, ki_X8_begin, ks_X8_begin⟩
theorem mo_X8_canLearn : MV yX8_canLearn cX8_canLearn 3 (some .boolean) 1 := ⟨kc_X8_canLearn, kn_X8, by decide +kernel, ki_X8_canLearn, ks_X8_canLearn⟩
theorem mo_X8_drawNearer : MV yX8_drawNearer cX8_drawNearer 6 none 2 := ⟨kc_X8_drawNearer, kn_X8, by decide +kernel, ki_X8_drawNearer, ks_X8_drawNearer⟩
theorem mo_X8_gainOf : MV yX8_gainOf cX8_gainOf 2 (some .int) 1 := ⟨kc_X8_gainOf, kn_X8, by decide +kernel, ki_X8_gainOf, ks_X8_gainOf⟩
theorem mo_X8_hearThroughWalls : MV yX8_hearThroughWalls cX8_hearThroughWalls 3 none 0 := ⟨kc_X8_hearThroughWalls, kn_X8, by decide +kernel, ki_X8_hearThroughWalls, ks_X8_hearThroughWalls⟩
theorem mo_X8_init : MI yX8_init cX8_init 2 1 := ⟨kc_X8_init, kn_X8, by decide +kernel, ki_X8_init, rfl⟩
theorem mo_X8_isDull : MV yX8_isDull cX8_isDull 4 (some .boolean) 1 := ⟨kc_X8_isDull, kn_X8, by decide +kernel, ki_X8_isDull, ks_X8_isDull⟩
theorem mo_X8_isWithin : MV yX8_isWithin cX8_isWithin 3 (some .boolean) 1 := ⟨kc_X8_isWithin, kn_X8, by decide +kernel, ki_X8_isWithin, ks_X8_isWithin⟩
theorem mo_X8_learn : MV yX8_learn cX8_learn 3 none 2 := ⟨kc_X8_learn, kn_X8, by decide +kernel, ki_X8_learn, ks_X8_learn⟩
theorem mo_X8_learnAllTold : MV yX8_learnAllTold cX8_learnAllTold 3 none 0 := ⟨kc_X8_learnAllTold, kn_X8, by decide +kernel, ki_X8_learnAllTold, ks_X8_learnAllTold⟩
theorem mo_X8_makeAllSeeingWrong : MV yX8_makeAllSeeingWrong cX8_makeAllSeeingWrong 3 none 1 := ⟨kc_X8_makeAllSeeingWrong, kn_X8, by decide +kernel, ki_X8_makeAllSeeingWrong, ks_X8_makeAllSeeingWrong⟩
theorem mo_X8_makeWrong : MV yX8_makeWrong cX8_makeWrong 3 none 2 := ⟨kc_X8_makeWrong, kn_X8, by decide +kernel, ki_X8_makeWrong, ks_X8_makeWrong⟩
theorem mo_X8_middle : MV yX8_middle cX8_middle 6 (some .int) 0 := ⟨kc_X8_middle, kn_X8, by decide +kernel, ki_X8_middle, ks_X8_middle⟩
theorem mo_X8_minutesApart : MV yX8_minutesApart cX8_minutesApart 3 (some .int) 2 := ⟨kc_X8_minutesApart, kn_X8, by decide +kernel, ki_X8_minutesApart, ks_X8_minutesApart⟩
theorem mo_X8_oilOnce : MV yX8_oilOnce cX8_oilOnce 3 none 1 := ⟨kc_X8_oilOnce, kn_X8, by decide +kernel, ki_X8_oilOnce, ks_X8_oilOnce⟩
theorem mo_X8_passDay : MV yX8_passDay cX8_passDay 3 none 1 := ⟨kc_X8_passDay, kn_X8, by decide +kernel, ki_X8_passDay, ks_X8_passDay⟩
theorem mo_X8_passDays : MV yX8_passDays cX8_passDays 3 none 1 := ⟨kc_X8_passDays, kn_X8, by decide +kernel, ki_X8_passDays, ks_X8_passDays⟩
theorem mo_X8_rightOnes : MV yX8_rightOnes cX8_rightOnes 3 (some .int) 0 := ⟨kc_X8_rightOnes, kn_X8, by decide +kernel, ki_X8_rightOnes, ks_X8_rightOnes⟩
theorem mo_X8_takeFrom : MV yX8_takeFrom cX8_takeFrom 3 none 1 := ⟨kc_X8_takeFrom, kn_X8, by decide +kernel, ki_X8_takeFrom, ks_X8_takeFrom⟩
theorem mo_X8_wrongOf : MV yX8_wrongOf cX8_wrongOf 2 (some .int) 1 := ⟨kc_X8_wrongOf, kn_X8, by decide +kernel, ki_X8_wrongOf, ks_X8_wrongOf⟩
theorem mo_X8_wrongTogether : MV yX8_wrongTogether cX8_wrongTogether 3 (some .int) 0 := ⟨kc_X8_wrongTogether, kn_X8, by decide +kernel, ki_X8_wrongTogether, ks_X8_wrongTogether⟩
theorem mo_X8_wrongWhenTaught : MV yX8_wrongWhenTaught cX8_wrongWhenTaught 5 (some .int) 2 := ⟨kc_X8_wrongWhenTaught, kn_X8, by decide +kernel, ki_X8_wrongWhenTaught, ks_X8_wrongWhenTaught⟩
theorem mo_X9_append : MV yX9_append cX9_append 2 none 1 := ⟨kc_X9_append, kn_X9, by decide +kernel, ki_X9_append, ks_X9_append⟩
theorem mo_X9_init : MI yX9_init cX9_init 1 0 := ⟨kc_X9_init, kn_X9, by decide +kernel, ki_X9_init, rfl⟩
theorem mo_X9_letterAt : MV yX9_letterAt cX9_letterAt 2 (some .int) 1 := ⟨kc_X9_letterAt, kn_X9, by decide +kernel, ki_X9_letterAt, ks_X9_letterAt⟩
