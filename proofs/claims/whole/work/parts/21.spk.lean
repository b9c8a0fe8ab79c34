-- longs, bits
section GL
variable {V : gV} {Z : gZ} {own : String} {cc : ByteArray} {nL : Nat} {R : Room} {cs : Nat × Nat} {ws : va_W} {pc : Nat} {L : List (Option Value)} {st : List Value}
theorem g_iushr (X : gX V Z own cc nL R) {x y : Int32} (d : decode cc pc = .ok (.iushr, 1)) (k : G V Z nL cs ws (pc + 1) L (.int ((x.toUInt32 >>> (y.toUInt32 &&& Int32.toUInt32 31)).toInt32) :: st)) : G V Z nL cs ws pc L (.int y :: .int x :: st) := fun H locs ls hP hD hS hL => lv_iushr X.1 X.2.1 d rfl (k H locs ls hP hD hS hL)
theorem g_ldcw (X : gX V Z own cc nL R) {idx : Nat} {v : Int32} (hl : Cond.constant own idx v ∈ lw_tbl) (d : decode cc pc = .ok (.ldc_w idx, 3)) (k : G V Z nL cs ws (pc + 3) L (.int v :: st)) : G V Z nL cs ws pc L st := fun H locs ls hP hD hS hL => lv_ldcw X.1 X.2.1 X.2.2.2.1 (X.w hl) d (k H locs ls hP hD hS hL)
theorem g_ldc2 (X : gX V Z own cc nL R) {idx : Nat} {v : Int64} (hl : Cond.constantLong own idx v ∈ lw_tbl) (d : decode cc pc = .ok (.ldc2_w idx, 3)) (k : G V Z nL cs ws (pc + 3) L (.long v :: st)) : G V Z nL cs ws pc L st := fun H locs ls hP hD hS hL => lv_ldc2 X.1 X.2.1 X.2.2.2.1 (X.w hl) d (k H locs ls hP hD hS hL)
theorem g_lconst (X : gX V Z own cc nL R) {n : Fin 2} (v : Int64) (d : decode cc pc = .ok (.lconst n, 1)) (hv : Int64.ofNat (n : Nat) = v) (k : G V Z nL cs ws (pc + 1) L (.long v :: st)) : G V Z nL cs ws pc L st := fun H locs ls hP hD hS hL => lv_lconst X.1 X.2.1 d hv (k H locs ls hP hD hS hL)
theorem g_i2l (X : gX V Z own cc nL R) {x : Int32} (d : decode cc pc = .ok (.i2l, 1)) (k : G V Z nL cs ws (pc + 1) L (.long x.toInt64 :: st)) : G V Z nL cs ws pc L (.int x :: st) := fun H locs ls hP hD hS hL => lv_i2l X.1 X.2.1 d rfl (k H locs ls hP hD hS hL)
theorem g_l2i (X : gX V Z own cc nL R) {x : Int64} (d : decode cc pc = .ok (.l2i, 1)) (k : G V Z nL cs ws (pc + 1) L (.int x.toInt32 :: st)) : G V Z nL cs ws pc L (.long x :: st) := fun H locs ls hP hD hS hL => lv_l2i X.1 X.2.1 d rfl (k H locs ls hP hD hS hL)
theorem g_lmul (X : gX V Z own cc nL R) {x y : Int64} (d : decode cc pc = .ok (.lmul, 1)) (k : G V Z nL cs ws (pc + 1) L (.long (x * y) :: st)) : G V Z nL cs ws pc L (.long y :: .long x :: st) := fun H locs ls hP hD hS hL => lv_lmul X.1 X.2.1 d (k H locs ls hP hD hS hL)
theorem g_ladd (X : gX V Z own cc nL R) {x y : Int64} (d : decode cc pc = .ok (.ladd, 1)) (k : G V Z nL cs ws (pc + 1) L (.long (x + y) :: st)) : G V Z nL cs ws pc L (.long y :: .long x :: st) := fun H locs ls hP hD hS hL => lv_ladd X.1 X.2.1 d (k H locs ls hP hD hS hL)
theorem g_lrem (X : gX V Z own cc nL R) {x y : Int64} (d : decode cc pc = .ok (.lrem, 1)) (hne : ¬ y = 0) (k : G V Z nL cs ws (pc + 1) L (.long (x - x / y * y) :: st)) : G V Z nL cs ws pc L (.long y :: .long x :: st) := fun H locs ls hP hD hS hL => lv_lrem X.1 X.2.1 d hne (k H locs ls hP hD hS hL)
theorem g_ldiv (X : gX V Z own cc nL R) {x y : Int64} (d : decode cc pc = .ok (.ldiv, 1)) (hne : ¬ y = 0) (k : G V Z nL cs ws (pc + 1) L (.long (x / y) :: st)) : G V Z nL cs ws pc L (.long y :: .long x :: st) := fun H locs ls hP hD hS hL => lv_ldiv X.1 X.2.1 d hne (k H locs ls hP hD hS hL)
theorem g_lload_n (X : gX V Z own cc nL R) {j : Fin 4} {x : Int64} (d : decode cc pc = .ok (.lload_n j, 1)) (h : L[(j : Nat)]? = some (some (.long x))) (k : G V Z nL cs ws (pc + 1) L (.long x :: st)) : G V Z nL cs ws pc L st := fun H locs ls hP hD hS hL => lv_lload_n X.1 X.2.1 d rfl (hL.at h) (k H locs ls hP hD hS hL)
theorem g_lload (X : gX V Z own cc nL R) {j : Nat} {x : Int64} (d : decode cc pc = .ok (.lload j, 2)) (h : L[j]? = some (some (.long x))) (k : G V Z nL cs ws (pc + 2) L (.long x :: st)) : G V Z nL cs ws pc L st := fun H locs ls hP hD hS hL => lv_lload X.1 X.2.1 d (hL.at h) (k H locs ls hP hD hS hL)
theorem gL.setL {ls' : Array Slot} {n i : Nat} {x : Int64} {L L' : List (Option Value)} (h : lv_has ls' n ((i, .long x) :: (lenc 0 L).filter (fun q => !(q.1 == i) && (!(q.1 == i + 1) && !(q.1 + 1 == i && q.2.category == 2))))) (hok : lok L i = true) (hL : (L.set i (some (.long x))).set (i + 1) none = L') : gL ls' n L' := by
  refine ⟨h.1, h.2.1, ?_⟩
  rintro ⟨j, w⟩ hq
  obtain ⟨j', e1, e2⟩ := lenc_mem.mp hq
  rw [Nat.zero_add] at e1
  subst e1
  subst hL
  refine h.2.2 (j, w) ?_
  by_cases hj1 : i + 1 = j
  · subst hj1
    rw [List.getElem?_set] at e2
    split at e2
    · split at e2 <;> cases e2
    · rename_i hne; exact absurd rfl hne
  · rw [List.getElem?_set_ne hj1] at e2
    by_cases hj : i = j
    · subst hj
      rw [List.getElem?_set] at e2
      split at e2
      · split at e2
        · cases e2
          exact List.mem_cons_self
        · cases e2
      · rename_i hne; exact absurd rfl hne
    · rw [List.getElem?_set_ne hj] at e2
      refine List.mem_cons_of_mem _ (List.mem_filter.mpr ⟨lenc_mem.mpr ⟨j, by omega, e2⟩, ?_⟩)
      have h1 : (j == i) = false := by simp; omega
      have h2 : (j == i + 1) = false := by simp; omega
      simp only [h1, h2, Bool.not_false, Bool.true_and, Bool.not_eq_true', Bool.and_eq_false_iff]
      by_cases h3 : j + 1 = i
      · right
        subst h3
        simp only [lok, e2] at hok
        have : w.category = 1 := by simpa using hok
        simp [this]
      · left
        simp [h3]
theorem g_lstore_n (X : gX V Z own cc nL R) {j : Fin 4} {x : Int64} {L' : List (Option Value)} (d : decode cc pc = .ok (.lstore_n j, 1)) (hn : (j : Nat) + 1 < nL) (hok : lok L (j : Nat) = true) (hL' : (L.set (j : Nat) (some (.long x))).set ((j : Nat) + 1) none = L') (k : G V Z nL cs ws (pc + 1) L' st) : G V Z nL cs ws pc L (.long x :: st) := fun H locs ls hP hD hS hL => lv_lstore_n X.1 X.2.1 d rfl hL hn rfl (fun ls' h' => k H locs ls' hP hD hS (gL.setL h' hok hL'))
theorem g_lstore (X : gX V Z own cc nL R) {j : Nat} {x : Int64} {L' : List (Option Value)} (d : decode cc pc = .ok (.lstore j, 2)) (hn : j + 1 < nL) (hok : lok L j = true) (hL' : (L.set j (some (.long x))).set (j + 1) none = L') (k : G V Z nL cs ws (pc + 2) L' st) : G V Z nL cs ws pc L (.long x :: st) := fun H locs ls hP hD hS hL => lv_lstore X.1 X.2.1 d hL hn rfl (fun ls' h' => k H locs ls' hP hD hS (gL.setL h' hok hL'))
end GL
def ush (x y : Int32) : Int32 := (x.toUInt32 >>> (y.toUInt32 &&& Int32.toUInt32 31)).toInt32
def bc1 (x : Int32) : Int32 := x - (ush x 1 &&& 1431655765)
def bc2 (x : Int32) : Int32 := (x &&& 858993459) + (ush x 2 &&& 858993459)
def bc3 (x : Int32) : Int32 := (x + ush x 4) &&& 252645135
def bc4 (x : Int32) : Int32 := x + ush x 8
def bc5 (x : Int32) : Int32 := x + ush x 16
def bcF (x : Int32) : Int32 := bc5 (bc4 (bc3 (bc2 (bc1 x)))) &&& 63
theorem pnat {a : Nat} (h : a ≤ 6) : 2 ^ a ≤ 64 := Nat.pow_le_pow_right (n := 2) (by decide) h
theorem nI_nm1 {a : Nat} (h : a < 2147483648) : ¬ nI a = -1 := by
  intro e
  have e1 := congrArg Int32.toInt e
  rw [nIa a h, show (-1 : Int32).toInt = -1 from by decide] at e1
  omega
