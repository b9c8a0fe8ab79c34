set_option maxHeartbeats 4000000 in
set_option maxRecDepth 100000 in
theorem c_X11_in (V : gV) (v : Int32) (lo : Int32) (hi : Int32)  : Ki V yX11_in cX11_in 3 .boolean ({ frames := 0, cells := 0, slots := 0, locals := 0 }) [.int v, .int lo, .int hi] [] (fun (r : Int32) (u : Unit) => r = inF v lo hi) (fun u => []) := by
  refine Ki.of [some (.int v), some (.int lo), some (.int hi)] (by decide) (Nat.le_of_ble_eq_true rfl) rfl rfl ?_
  intro Z X E
  have X : gX V Z RX11 cX11_in 3 ({ frames := 0, cells := 0, slots := 0, locals := 0 }) := X
  refine g_iload_n X dX11_in_0 rfl ?_
  refine g_iload_n X dX11_in_1 rfl ?_
  refine g_icmp_lt X 14 dX11_in_2 (by decide) (fun c2_1 => ?_) (fun c2_1 => ?_)
  · have c2_1d := Int32.not_le.mpr c2_1
    refine g_iconst X (0) dX11_in_14 (by decide) ?_
    exact g_zret X E dX11_in_15 () 0 rfl (by rw [inF]; simp [c2_1, c2_1d]) rfl
  · have c2_1d := Int32.not_lt.mp c2_1
    refine g_iload_n X dX11_in_5 rfl ?_
    refine g_iload_n X dX11_in_6 rfl ?_
    refine g_icmp_gt X 14 dX11_in_7 (by decide) (fun c7_2 => ?_) (fun c7_2 => ?_)
    · have c7_2d := Int32.not_le.mpr c7_2
      refine g_iconst X (0) dX11_in_14 (by decide) ?_
      exact g_zret X E dX11_in_15 () 0 rfl (by rw [inF]; simp [c2_1, c2_1d, c7_2, c7_2d]) rfl
    · have c7_2d := Int32.not_lt.mp c7_2
      refine g_iconst X (1) dX11_in_10 (by decide) ?_
      refine g_goto X 15 dX11_in_11 (by decide) ?_
      exact g_zret X E dX11_in_15 () 1 rfl (by rw [inF]; simp [c2_1, c2_1d, c7_2, c7_2d]) rfl

set_option maxHeartbeats 4000000 in
set_option maxRecDepth 100000 in
theorem c_X11_has (V : gV) (v : Int32) (b : Nat)  : Ki V yX11_has cX11_has 2 .boolean ({ frames := 0, cells := 0, slots := 0, locals := 0 }) [.int v, .int (nI b)] [] (fun (r : Int32) (u : Unit) => r = hasF v b) (fun u => []) := by
  refine Ki.of [some (.int v), some (.int (nI b))] (by decide) (Nat.le_of_ble_eq_true rfl) rfl rfl ?_
  intro Z X E
  have X : gX V Z RX11 cX11_has 2 ({ frames := 0, cells := 0, slots := 0, locals := 0 }) := X
  refine g_iload_n X dX11_has_0 rfl ?_
  refine g_iload_n X dX11_has_1 rfl ?_
  refine g_ishr X dX11_has_2 ?_
  refine g_iconst X (1) dX11_has_3 (by decide) ?_
  refine g_iand X dX11_has_4 ?_
  refine g_iconst X (1) dX11_has_5 (by decide) ?_
  refine g_icmp_ne X 13 dX11_has_6 (by decide) (fun c6_1 => ?_) (fun c6_1 => ?_)
  · refine g_iconst X (0) dX11_has_13 (by decide) ?_
    exact g_zret X E dX11_has_14 () 0 rfl (by first | rfl | (simp [hasF, c6_1]; done)) rfl
  · refine g_iconst X (1) dX11_has_9 (by decide) ?_
    refine g_goto X 14 dX11_has_10 (by decide) ?_
    exact g_zret X E dX11_has_14 () 1 rfl (by first | rfl | (simp [hasF, c6_1]; done)) rfl

set_option maxHeartbeats 4000000 in
set_option maxRecDepth 100000 in
theorem c_X11_far (V : gV) (v : Int32)  : Ki V yX11_far cX11_far 1 .int ({ frames := 0, cells := 0, slots := 0, locals := 0 }) [.int v] [] (fun (r : Int32) (u : Unit) => r = absF v) (fun u => []) := by
  refine Ki.of [some (.int v)] (by decide) (Nat.le_of_ble_eq_true rfl) rfl rfl ?_
  intro Z X E
  have X : gX V Z RX11 cX11_far 1 ({ frames := 0, cells := 0, slots := 0, locals := 0 }) := X
  refine g_iload_n X dX11_far_0 rfl ?_
  refine g_if_ge X 9 dX11_far_1 (by decide) (fun c1_1 => ?_) (fun c1_1 => ?_)
  · have c1_1d := Int32.not_lt.mpr c1_1
    refine g_iload_n X dX11_far_9 rfl ?_
    exact g_iret X E dX11_far_10 () v (absF_pos c1_1) rfl
  · have c1_1d := Int32.not_le.mp c1_1
    refine g_iload_n X dX11_far_4 rfl ?_
    refine g_ineg X dX11_far_5 ?_
    refine g_goto X 10 dX11_far_6 (by decide) ?_
    exact g_iret X E dX11_far_10 () (-v) (absF_neg c1_1) rfl

set_option maxHeartbeats 4000000 in
set_option maxRecDepth 100000 in
theorem c_X11_bound (V : gV) (v : Int32)  : Ki V yX11_bound cX11_bound 1 .int ({ frames := 0, cells := 0, slots := 0, locals := 0 }) [.int v] [] (fun (r : Int32) (u : Unit) => r = clampF v) (fun u => []) := by
  refine Ki.of [some (.int v)] (by decide) (Nat.le_of_ble_eq_true rfl) rfl rfl ?_
  intro Z X E
  have X : gX V Z RX11 cX11_bound 1 ({ frames := 0, cells := 0, slots := 0, locals := 0 }) := X
  refine g_iload_n X dX11_bound_0 rfl ?_
  refine g_sipush X (600) dX11_bound_1 (by decide) ?_
  refine g_icmp_le X 13 dX11_bound_4 (by decide) (fun c4_1 => ?_) (fun c4_1 => ?_)
  · have c4_1d := Int32.not_lt.mpr c4_1
    refine g_iload_n X dX11_bound_13 rfl ?_
    refine g_sipush X (-600) dX11_bound_14 (by decide) ?_
    refine g_icmp_ge X 26 dX11_bound_17 (by decide) (fun c17_2 => ?_) (fun c17_2 => ?_)
    · have c17_2d := Int32.not_lt.mpr c17_2
      refine g_iload_n X dX11_bound_26 rfl ?_
      exact g_iret X E dX11_bound_27 () v (boundM3 c4_1 c17_2) rfl
    · have c17_2d := Int32.not_le.mp c17_2
      refine g_sipush X (-600) dX11_bound_20 (by decide) ?_
      refine g_goto X 27 dX11_bound_23 (by decide) ?_
      exact g_iret X E dX11_bound_27 () (-600) (boundM2 c17_2) rfl
  · have c4_1d := Int32.not_le.mp c4_1
    refine g_sipush X (600) dX11_bound_7 (by decide) ?_
    refine g_goto X 27 dX11_bound_10 (by decide) ?_
    exact g_iret X E dX11_bound_27 () 600 (boundM1 c4_1) rfl

set_option maxHeartbeats 4000000 in
set_option maxRecDepth 100000 in
theorem c_X11_isClock (V : gV) (mm : Nat) (mtx : Nat) (mnu : Nat) (mrc : Nat) (mrw : Nat) (mrl : Nat) (mki : Nat) (mwa : Nat) (mle : Nat) (mno : Nat) (mtr : Nat) (mse : Nat) (mba : Nat) (mim : Nat) (msi : Nat) (mfo : Nat) (mor : Nat) (mbo : Nat) (mma : Nat) (mbm : Nat) (mso : Nat) (le_ : Int32) (po_ : Int32) (fa_ : Int32) (rcl_ : Int32) (rle_ : Int32) (n : Nat) (ls_ : Int32) (ba_ : Int32) (km_ : Int32) (si_ : Int32) (fm_ : Int32) (c : Int32) (hn : n ≤ 7) (h1n : 1 ≤ n) : Ki V yX11_isClock cX11_isClock 2 .boolean ({ frames := 1, cells := 0, slots := 0, locals := 22 }) [.ref mm, .int c] [(mm, .inr (11, [.int le_, .ref mtx, .int po_, .ref mnu, .int fa_, .int rcl_, .int rle_, .ref mrc, .ref mrw, .ref mrl, .int (nI n), .ref mki, .ref mwa, .int ls_, .ref mle, .ref mno, .ref mtr, .ref mse, .ref mba, .int ba_, .ref mim, .int km_, .int si_, .ref msi, .ref mfo, .int fm_, .ref mor, .ref mbo, .ref mma, .ref mbm, .ref mso]))] (fun (r : Int32) (u : Unit) => r = (if okC n c then 1 else 0)) (fun u => [(mm, .inr (11, [.int le_, .ref mtx, .int po_, .ref mnu, .int fa_, .int rcl_, .int rle_, .ref mrc, .ref mrw, .ref mrl, .int (nI n), .ref mki, .ref mwa, .int ls_, .ref mle, .ref mno, .ref mtr, .ref mse, .ref mba, .int ba_, .ref mim, .int km_, .int si_, .ref msi, .ref mfo, .int fm_, .ref mor, .ref mbo, .ref mma, .ref mbm, .ref mso]))]) := by
  refine Ki.of [some (.ref mm), some (.int c)] (by decide) (Nat.le_of_ble_eq_true rfl) rfl rfl ?_
  intro Z X E
  have X : gX V Z RX11 cX11_isClock 2 ({ frames := 1, cells := 0, slots := 0, locals := 22 }) := X
  refine g_iload_n X dX11_isClock_0 rfl ?_
  refine g_iconst X (0) dX11_isClock_1 (by decide) ?_
  refine g_aload_n X dX11_isClock_2 rfl ?_
  refine g_get X uwX11 0 rfl rfl 10 (by decide) kl_X11_91 rfl rfl gwX11 dX11_isClock_3 ?_
  refine g_iconst X (1) dX11_isClock_6 (by decide) ?_
  refine g_isub X dX11_isClock_7 ?_
  refine g_toe (x' := nI (n - 1)) (nI_sub' rfl rfl (by omega)) ?_
  refine g_callSi X (c_X11_in V c 0 (nI (n - 1))) mo_X11_in kl_X11_94 [] [0] rfl (by decide +kernel) rfl rfl (fun _ => Nat.le_of_ble_eq_true rfl) (As := [.int c, .int 0, .int (nI (n - 1))]) (st := []) (cs' := (0, 0)) rfl rfl rfl dX11_isClock_8 (fun r_5 u_1 hp_2 ws_4 hw_3 => ?_)
  obtain rfl : r_5 = inF c 0 (nI (n - 1)) := hp_2
  have hw_3x : ws_4 = [(mm, .inr (11, [.int le_, .ref mtx, .int po_, .ref mnu, .int fa_, .int rcl_, .int rle_, .ref mrc, .ref mrw, .ref mrl, .int (nI n), .ref mki, .ref mwa, .int ls_, .ref mle, .ref mno, .ref mtr, .ref mse, .ref mba, .int ba_, .ref mim, .int km_, .int si_, .ref msi, .ref mfo, .int fm_, .ref mor, .ref mbo, .ref mma, .ref mbm, .ref mso]))] := hw_3.symm
  clear hw_3; subst hw_3x
  exact g_zret X E dX11_isClock_11 () (inF c 0 (nI (n - 1))) (by rw [inF_ok h1n (by omega)]; split <;> rfl) (inF_ok h1n (by omega)) rfl

set_option maxHeartbeats 4000000 in
set_option maxRecDepth 100000 in
theorem c_X11_copy (V : gV) (qa : Nat) (na : Nat) (fa : Nat → Int32) (qb : Nat) (nb : Nat) (fb : Nat → Int32) (fr : Nat) (to : Nat) (hfr : fr + 15 ≤ na) (hto : to + 15 ≤ nb) (hna : na < 1000) (hnb : nb < 1000) : Kv V yX11_copy cX11_copy 5 ({ frames := 0, cells := 0, slots := 0, locals := 0 }) [.ref qa, .int (nI fr), .ref qb, .int (nI to)] [(qa, .inl (V.2.2.1, na, .inl fa)), (qb, .inl (V.2.2.1, nb, .inl fb))] (fun u : Unit => True) (fun u => [(qa, .inl (V.2.2.1, na, .inl fa)), (qb, .inl (V.2.2.1, nb, .inl (cpM to fr fa fb)))]) := by
  refine Kv.of [some (.ref qa), some (.int (nI fr)), some (.ref qb), some (.int (nI to)), none] (by decide) (Nat.le_of_ble_eq_true rfl) rfl rfl ?_
  intro Z X E
  have X : gX V Z RX11 cX11_copy 5 ({ frames := 0, cells := 0, slots := 0, locals := 0 }) := X
  refine g_iconst X (0) dX11_copy_0 (by decide) ?_
  refine g_istore X (L' := [some (.ref qa), some (.int (nI fr)), some (.ref qb), some (.int (nI to)), some (.int 0)]) dX11_copy_1 (by decide) rfl rfl ?_
  have loop3 : ∀ (d3 i : Nat), i + d3 = 15 → ∀ (w1 : Nat → Int32) (h1 : ∀ j, w1 j = if to ≤ j ∧ j < to + i then fa (fr + (j - to)) else fb j), G V Z 5 (0, 0) [(qa, .inl (V.2.2.1, na, .inl fa)), (qb, .inl (V.2.2.1, nb, .inl w1))] 3 [some (.ref qa), some (.int (nI fr)), some (.ref qb), some (.int (nI to)), some (.int (nI i))] [] := by
    intro d3
    induction d3 with
    | zero =>
      intro i hi w1 h1
      refine g_iload X dX11_copy_3 rfl ?_
      refine g_bipush X (15) dX11_copy_5 (by decide) ?_
      refine g_icmp_ge X 28 dX11_copy_7 (by decide) (fun c7_1 => ?_) (fun c7_1 => absurd (tge (a := i) (b := 15) (by omega) (by omega) (by omega)) c7_1)
      refine g_arr 1 (cpM to fr fa fb) rfl (by have e : i = 15 := (by omega); subst e; exact fun j _ => h1 j) (ws' := [(qa, .inl (V.2.2.1, na, .inl fa)), (qb, .inl (V.2.2.1, nb, .inl (cpM to fr fa fb)))]) rfl ?_
      exact g_vret X E dX11_copy_28 () trivial rfl
    | succ d3 ih3 =>
      intro i hi w1 h1
      refine g_iload X dX11_copy_3 rfl ?_
      refine g_bipush X (15) dX11_copy_5 (by decide) ?_
      refine g_icmp_ge X 28 dX11_copy_7 (by decide) (fun c7_2 => absurd c7_2 (fge (a := i) (b := 15) (by omega) (by omega) (by omega))) (fun c7_2 => ?_)
      refine g_aload_n X dX11_copy_10 rfl ?_
      refine g_iload_n X dX11_copy_11 rfl ?_
      refine g_iload X dX11_copy_12 rfl ?_
      refine g_iadd X dX11_copy_14 ?_
      refine g_toe (x' := nI (to + i)) (nI_add' rfl rfl) ?_
      refine g_aload_n X dX11_copy_15 rfl ?_
      refine g_iload_n X dX11_copy_16 rfl ?_
      refine g_iload X dX11_copy_17 rfl ?_
      refine g_iadd X dX11_copy_19 ?_
      refine g_toe (x' := nI (fr + i)) (nI_add' rfl rfl) ?_
      refine g_iald' X 0 rfl (i := (fr + i)) rfl (by omega) (by omega) dX11_copy_20 ?_
      refine g_iast' X 1 rfl (i := (to + i)) rfl (by omega) (by omega) (ws' := [(qa, .inl (V.2.2.1, na, .inl fa)), (qb, .inl (V.2.2.1, nb, .inl (upd w1 (to + i) (fa (fr + i)))))]) rfl dX11_copy_21 ?_
      refine g_iinc X (v := nI (i + 1)) (L' := [some (.ref qa), some (.int (nI fr)), some (.ref qb), some (.int (nI to)), some (.int (nI (i + 1)))]) dX11_copy_22 rfl (nI_addk (by decide)) (by decide) rfl rfl ?_
      refine g_goto X 3 dX11_copy_25 (by decide) ?_
      exact ih3 (i + 1) (by omega) (upd w1 (to + i) (fa (fr + i))) (cp_s h1)
  exact loop3 15 0 (by omega) fb (fun j => by rw [if_neg (by omega)])

set_option maxHeartbeats 4000000 in
set_option maxRecDepth 100000 in
theorem c_X11_isTaught (V : gV) (mm : Nat) (mtx : Nat) (mnu : Nat) (mrc : Nat) (mrw : Nat) (mrl : Nat) (mki : Nat) (mwa : Nat) (mle : Nat) (mno : Nat) (mtr : Nat) (mse : Nat) (mba : Nat) (mim : Nat) (msi : Nat) (mfo : Nat) (mor : Nat) (mbo : Nat) (mma : Nat) (mbm : Nat) (mso : Nat) (le_ : Int32) (po_ : Int32) (fa_ : Int32) (rcl_ : Int32) (rle_ : Int32) (cl_ : Int32) (ls_ : Int32) (ba_ : Int32) (km_ : Int32) (si_ : Int32) (fm_ : Int32) (k : Nat → Int32) (day : Int32) (w : Nat → Int32) (g : Nat → Int32) (sa : Nat) (b : Nat) (hb : b < 7) : Ki V yX11_isTaught cX11_isTaught 3 .boolean ({ frames := 0, cells := 0, slots := 0, locals := 0 }) [.ref mm, .ref sa, .int (nI b)] [(mm, .inr (11, [.int le_, .ref mtx, .int po_, .ref mnu, .int fa_, .int rcl_, .int rle_, .ref mrc, .ref mrw, .ref mrl, .int cl_, .ref mki, .ref mwa, .int ls_, .ref mle, .ref mno, .ref mtr, .ref mse, .ref mba, .int ba_, .ref mim, .int km_, .int si_, .ref msi, .ref mfo, .int fm_, .ref mor, .ref mbo, .ref mma, .ref mbm, .ref mso])), (mki, .inl (V.2.2.1, 7, .inl k)), (sa, .inl (V.2.2.1, 15, .inl (stF day w g)))] (fun (r : Int32) (u : Unit) => r = canF (k b) day) (fun u => [(mm, .inr (11, [.int le_, .ref mtx, .int po_, .ref mnu, .int fa_, .int rcl_, .int rle_, .ref mrc, .ref mrw, .ref mrl, .int cl_, .ref mki, .ref mwa, .int ls_, .ref mle, .ref mno, .ref mtr, .ref mse, .ref mba, .int ba_, .ref mim, .int km_, .int si_, .ref msi, .ref mfo, .int fm_, .ref mor, .ref mbo, .ref mma, .ref mbm, .ref mso])), (mki, .inl (V.2.2.1, 7, .inl k)), (sa, .inl (V.2.2.1, 15, .inl (stF day w g)))]) := by
  refine Ki.of [some (.ref mm), some (.ref sa), some (.int (nI b))] (by decide) (Nat.le_of_ble_eq_true rfl) rfl rfl ?_
  intro Z X E
  have X : gX V Z RX11 cX11_isTaught 3 ({ frames := 0, cells := 0, slots := 0, locals := 0 }) := X
  refine g_aload_n X dX11_isTaught_0 rfl ?_
  refine g_get X uwX11 0 rfl rfl 11 (by decide) kl_X11_25 rfl rfl gwX11 dX11_isTaught_1 ?_
  refine g_iload_n X dX11_isTaught_4 rfl ?_
  refine g_iald' X 1 rfl (i := b) rfl (by omega) (by omega) dX11_isTaught_5 ?_
  refine g_iconst X (3) dX11_isTaught_6 (by decide) ?_
  refine g_icmp_eq X 35 dX11_isTaught_7 (by decide) (fun c7_1 => ?_) (fun c7_1 => ?_)
  · refine g_iconst X (0) dX11_isTaught_35 (by decide) ?_
    exact g_zret X E dX11_isTaught_36 () 0 rfl (by first | rfl | (simp [canF, c7_1]; done)) rfl
  · refine g_aload_n X dX11_isTaught_10 rfl ?_
    refine g_get X uwX11 0 rfl rfl 11 (by decide) kl_X11_25 rfl rfl gwX11 dX11_isTaught_11 ?_
    refine g_iload_n X dX11_isTaught_14 rfl ?_
    refine g_iald' X 1 rfl (i := b) rfl (by omega) (by omega) dX11_isTaught_15 ?_
    refine g_iconst X (4) dX11_isTaught_16 (by decide) ?_
    refine g_icmp_ne X 31 dX11_isTaught_17 (by decide) (fun c17_2 => ?_) (fun c17_2 => ?_)
    · refine g_iconst X (1) dX11_isTaught_31 (by decide) ?_
      refine g_goto X 36 dX11_isTaught_32 (by decide) ?_
      exact g_zret X E dX11_isTaught_36 () 1 rfl (by first | rfl | (simp [canF, c7_1, c17_2]; done)) rfl
    · refine g_aload_n X dX11_isTaught_20 rfl ?_
      refine g_iconst X (0) dX11_isTaught_21 (by decide) ?_
      refine g_iald' X 2 rfl (i := 0) rfl (by omega) (by omega) dX11_isTaught_22 ?_
      refine g_toe (x' := day) rfl ?_
      refine g_bipush X (7) dX11_isTaught_23 (by decide) ?_
      refine g_rem X dX11_isTaught_25 (by decide) ?_
      refine g_bipush X (6) dX11_isTaught_26 (by decide) ?_
      refine g_icmp_ne X 35 dX11_isTaught_28 (by decide) (fun c28_3 => ?_) (fun c28_3 => ?_)
      · refine g_iconst X (0) dX11_isTaught_35 (by decide) ?_
        exact g_zret X E dX11_isTaught_36 () 0 rfl (by first | rfl | (simp [canF, c7_1, c17_2, c28_3]; done)) rfl
      · refine g_iconst X (1) dX11_isTaught_31 (by decide) ?_
        refine g_goto X 36 dX11_isTaught_32 (by decide) ?_
        exact g_zret X E dX11_isTaught_36 () 1 rfl (by first | rfl | (simp [canF, c7_1, c17_2, c28_3]; done)) rfl

set_option maxHeartbeats 4000000 in
set_option maxRecDepth 100000 in
theorem c_X11_teachOn (V : gV) (mm : Nat) (mtx : Nat) (mnu : Nat) (mrc : Nat) (mrw : Nat) (mrl : Nat) (mki : Nat) (mwa : Nat) (mle : Nat) (mno : Nat) (mtr : Nat) (mse : Nat) (mba : Nat) (mim : Nat) (msi : Nat) (mfo : Nat) (mor : Nat) (mbo : Nat) (mma : Nat) (mbm : Nat) (mso : Nat) (le_ : Int32) (po_ : Int32) (fa_ : Int32) (rcl_ : Int32) (rle_ : Int32) (n : Nat) (ls_ : Int32) (ba_ : Int32) (km_ : Int32) (si_ : Int32) (fm_ : Int32) (k : Nat → Int32) (day : Int32) (w : Nat → Int32) (g : Nat → Int32) (sa : Nat) (a : Nat) (b : Nat) (hn : n ≤ 7) (ha : a < n) (hb : b < n) (hB : Bd n w) : Kv V yX11_teachOn cX11_teachOn 6 ({ frames := 1, cells := 0, slots := 0, locals := 22 }) [.ref mm, .ref sa, .int (nI a), .int (nI b)] [(mm, .inr (11, [.int le_, .ref mtx, .int po_, .ref mnu, .int fa_, .int rcl_, .int rle_, .ref mrc, .ref mrw, .ref mrl, .int (nI n), .ref mki, .ref mwa, .int ls_, .ref mle, .ref mno, .ref mtr, .ref mse, .ref mba, .int ba_, .ref mim, .int km_, .int si_, .ref msi, .ref mfo, .int fm_, .ref mor, .ref mbo, .ref mma, .ref mbm, .ref mso])), (mki, .inl (V.2.2.1, 7, .inl k)), (sa, .inl (V.2.2.1, 15, .inl (stF day w g)))] (fun u : (Nat → Int32) => u = learnF k day a b w) (fun u => [(mm, .inr (11, [.int le_, .ref mtx, .int po_, .ref mnu, .int fa_, .int rcl_, .int rle_, .ref mrc, .ref mrw, .ref mrl, .int (nI n), .ref mki, .ref mwa, .int ls_, .ref mle, .ref mno, .ref mtr, .ref mse, .ref mba, .int ba_, .ref mim, .int km_, .int si_, .ref msi, .ref mfo, .int fm_, .ref mor, .ref mbo, .ref mma, .ref mbm, .ref mso])), (mki, .inl (V.2.2.1, 7, .inl k)), (sa, .inl (V.2.2.1, 15, .inl (stF day u g)))]) := by
  refine Kv.of [some (.ref mm), some (.ref sa), some (.int (nI a)), some (.int (nI b)), none, none] (by decide) (Nat.le_of_ble_eq_true rfl) rfl rfl ?_
  intro Z X E
  have X : gX V Z RX11 cX11_teachOn 6 ({ frames := 1, cells := 0, slots := 0, locals := 22 }) := X
  refine g_aload_n X dX11_teachOn_0 rfl ?_
  refine g_aload_n X dX11_teachOn_1 rfl ?_
  refine g_iload_n X dX11_teachOn_2 rfl ?_
  refine g_callVi X (c_X11_isTaught V mm mtx mnu mrc mrw mrl mki mwa mle mno mtr mse mba mim msi mfo mor mbo mma mbm mso le_ po_ fa_ rcl_ rle_ (nI n) ls_ ba_ km_ si_ fm_ k day w g sa b (by omega)) mo_X11_isTaught kl_X11_144 [0, 1, 2] [1, 2, 3] rfl (by decide +kernel) rfl rfl (fun _ => Nat.le_of_ble_eq_true rfl) 0 11 rfl rfl (As := [.ref sa, .int (nI b)]) (st := []) (cs' := (0, 0)) rfl rfl rfl rfl dX11_teachOn_3 (fun r_5 u_1 hp_2 ws_4 hw_3 => ?_)
  obtain rfl : r_5 = canF (k b) day := hp_2
  have hw_3x : ws_4 = [(mm, .inr (11, [.int le_, .ref mtx, .int po_, .ref mnu, .int fa_, .int rcl_, .int rle_, .ref mrc, .ref mrw, .ref mrl, .int (nI n), .ref mki, .ref mwa, .int ls_, .ref mle, .ref mno, .ref mtr, .ref mse, .ref mba, .int ba_, .ref mim, .int km_, .int si_, .ref msi, .ref mfo, .int fm_, .ref mor, .ref mbo, .ref mma, .ref mbm, .ref mso])), (mki, .inl (V.2.2.1, 7, .inl k)), (sa, .inl (V.2.2.1, 15, .inl (stF day w g)))] := hw_3.symm
  clear hw_3; subst hw_3x
  refine g_if_eq X 73 dX11_teachOn_6 (by decide) (fun c6_6 => ?_) (fun c6_6 => ?_)
  · exact g_vret X E dX11_teachOn_73 w (learn_no c6_6) rfl
  · refine g_aload_n X dX11_teachOn_9 rfl ?_
    refine g_iconst X (1) dX11_teachOn_10 (by decide) ?_
    refine g_iload_n X dX11_teachOn_11 rfl ?_
    refine g_iadd X dX11_teachOn_12 ?_
    refine g_toe (x' := nI (1 + a)) (nI_add' rfl rfl) ?_
    refine g_iald' X 2 rfl (i := (1 + a)) rfl (by omega) (by omega) dX11_teachOn_13 ?_
    refine g_toe (x' := w a) (stF_w _ _ _ a (by omega)) ?_
    refine g_istore X (L' := [some (.ref mm), some (.ref sa), some (.int (nI a)), some (.int (nI b)), some (.int (w a)), none]) dX11_teachOn_14 (by decide) rfl rfl ?_
    refine g_aload_n X dX11_teachOn_16 rfl ?_
    refine g_iconst X (1) dX11_teachOn_17 (by decide) ?_
    refine g_iload_n X dX11_teachOn_18 rfl ?_
    refine g_iadd X dX11_teachOn_19 ?_
    refine g_toe (x' := nI (1 + b)) (nI_add' rfl rfl) ?_
    refine g_iald' X 2 rfl (i := (1 + b)) rfl (by omega) (by omega) dX11_teachOn_20 ?_
    refine g_toe (x' := w b) (stF_w _ _ _ b (by omega)) ?_
    refine g_istore X (L' := [some (.ref mm), some (.ref sa), some (.int (nI a)), some (.int (nI b)), some (.int (w a)), some (.int (w b))]) dX11_teachOn_21 (by decide) rfl rfl ?_
    refine g_aload_n X dX11_teachOn_23 rfl ?_
    refine g_iconst X (1) dX11_teachOn_24 (by decide) ?_
    refine g_iload_n X dX11_teachOn_25 rfl ?_
    refine g_iadd X dX11_teachOn_26 ?_
    refine g_toe (x' := nI (1 + b)) (nI_add' rfl rfl) ?_
    refine g_aload_n X dX11_teachOn_27 rfl ?_
    refine g_get X uwX11 0 rfl rfl 11 (by decide) kl_X11_25 rfl rfl gwX11 dX11_teachOn_28 ?_
    refine g_iload_n X dX11_teachOn_31 rfl ?_
    refine g_iald' X 1 rfl (i := b) rfl (by omega) (by omega) dX11_teachOn_32 ?_
    refine g_iconst X (1) dX11_teachOn_33 (by decide) ?_
    refine g_icmp_ne X 50 dX11_teachOn_34 (by decide) (fun c34_7 => ?_) (fun c34_7 => ?_)
    · refine g_aload_n X dX11_teachOn_50 rfl ?_
      refine g_get X uwX11 0 rfl rfl 11 (by decide) kl_X11_25 rfl rfl gwX11 dX11_teachOn_51 ?_
      refine g_iload_n X dX11_teachOn_54 rfl ?_
      refine g_iald' X 1 rfl (i := b) rfl (by omega) (by omega) dX11_teachOn_55 ?_
      refine g_iconst X (2) dX11_teachOn_56 (by decide) ?_
      refine g_icmp_ne X 70 dX11_teachOn_57 (by decide) (fun c57_8 => ?_) (fun c57_8 => ?_)
      · refine g_iload X dX11_teachOn_70 rfl ?_
        refine g_iast' X 2 rfl (i := (1 + b)) rfl (by omega) (by omega) (ws' := [(mm, .inr (11, [.int le_, .ref mtx, .int po_, .ref mnu, .int fa_, .int rcl_, .int rle_, .ref mrc, .ref mrw, .ref mrl, .int (nI n), .ref mki, .ref mwa, .int ls_, .ref mle, .ref mno, .ref mtr, .ref mse, .ref mba, .int ba_, .ref mim, .int km_, .int si_, .ref msi, .ref mfo, .int fm_, .ref mor, .ref mbo, .ref mma, .ref mbm, .ref mso])), (mki, .inl (V.2.2.1, 7, .inl k)), (sa, .inl (V.2.2.1, 15, .inl (upd (stF day w g) (1 + b) (w a))))]) rfl dX11_teachOn_72 ?_
        refine g_arr 2 (stF day (upd w b (w a)) g) rfl (stF_uw _ _ _ _ b (by omega)) (ws' := [(mm, .inr (11, [.int le_, .ref mtx, .int po_, .ref mnu, .int fa_, .int rcl_, .int rle_, .ref mrc, .ref mrw, .ref mrl, .int (nI n), .ref mki, .ref mwa, .int ls_, .ref mle, .ref mno, .ref mtr, .ref mse, .ref mba, .int ba_, .ref mim, .int km_, .int si_, .ref msi, .ref mfo, .int fm_, .ref mor, .ref mbo, .ref mma, .ref mbm, .ref mso])), (mki, .inl (V.2.2.1, 7, .inl k)), (sa, .inl (V.2.2.1, 15, .inl (stF day (upd w b (w a)) g)))]) rfl ?_
        exact g_vret X E dX11_teachOn_73 (upd w b (w a)) (learn_pl hB ha c6_6 c34_7 c57_8) rfl
      · refine g_iload X dX11_teachOn_60 rfl ?_
        refine g_iconst X (1) dX11_teachOn_62 (by decide) ?_
        refine g_iadd X dX11_teachOn_63 ?_
        refine g_callSi X (c_X11_bound V ((w a) + 1)) mo_X11_bound kl_X11_148 [] [0, 0, 0] rfl (by decide +kernel) rfl rfl (fun _ => Nat.le_of_ble_eq_true rfl) (As := [.int ((w a) + 1)]) (st := [.int (nI (1 + b)), .ref sa]) (cs' := (0, 0)) rfl rfl rfl dX11_teachOn_64 (fun r_13 u_9 hp_10 ws_12 hw_11 => ?_)
        obtain rfl : r_13 = clampF ((w a) + 1) := hp_10
        have hw_11x : ws_12 = [(mm, .inr (11, [.int le_, .ref mtx, .int po_, .ref mnu, .int fa_, .int rcl_, .int rle_, .ref mrc, .ref mrw, .ref mrl, .int (nI n), .ref mki, .ref mwa, .int ls_, .ref mle, .ref mno, .ref mtr, .ref mse, .ref mba, .int ba_, .ref mim, .int km_, .int si_, .ref msi, .ref mfo, .int fm_, .ref mor, .ref mbo, .ref mma, .ref mbm, .ref mso])), (mki, .inl (V.2.2.1, 7, .inl k)), (sa, .inl (V.2.2.1, 15, .inl (stF day w g)))] := hw_11.symm
        clear hw_11; subst hw_11x
        refine g_goto X 72 dX11_teachOn_67 (by decide) ?_
        refine g_iast' X 2 rfl (i := (1 + b)) rfl (by omega) (by omega) (ws' := [(mm, .inr (11, [.int le_, .ref mtx, .int po_, .ref mnu, .int fa_, .int rcl_, .int rle_, .ref mrc, .ref mrw, .ref mrl, .int (nI n), .ref mki, .ref mwa, .int ls_, .ref mle, .ref mno, .ref mtr, .ref mse, .ref mba, .int ba_, .ref mim, .int km_, .int si_, .ref msi, .ref mfo, .int fm_, .ref mor, .ref mbo, .ref mma, .ref mbm, .ref mso])), (mki, .inl (V.2.2.1, 7, .inl k)), (sa, .inl (V.2.2.1, 15, .inl (upd (stF day w g) (1 + b) (clampF ((w a) + 1)))))]) rfl dX11_teachOn_72 ?_
        refine g_arr 2 (stF day (upd w b (clampF ((w a) + 1))) g) rfl (stF_uw _ _ _ _ b (by omega)) (ws' := [(mm, .inr (11, [.int le_, .ref mtx, .int po_, .ref mnu, .int fa_, .int rcl_, .int rle_, .ref mrc, .ref mrw, .ref mrl, .int (nI n), .ref mki, .ref mwa, .int ls_, .ref mle, .ref mno, .ref mtr, .ref mse, .ref mba, .int ba_, .ref mim, .int km_, .int si_, .ref msi, .ref mfo, .int fm_, .ref mor, .ref mbo, .ref mma, .ref mbm, .ref mso])), (mki, .inl (V.2.2.1, 7, .inl k)), (sa, .inl (V.2.2.1, 15, .inl (stF day (upd w b (clampF ((w a) + 1))) g)))]) rfl ?_
        exact g_vret X E dX11_teachOn_73 (upd w b (clampF ((w a) + 1))) (learn_cuc c6_6 c34_7 c57_8) rfl
    · refine g_iload X dX11_teachOn_37 rfl ?_
      refine g_iload X dX11_teachOn_39 rfl ?_
      refine g_iload X dX11_teachOn_41 rfl ?_
      refine g_isub X dX11_teachOn_43 ?_
      refine g_iconst X (2) dX11_teachOn_44 (by decide) ?_
      refine g_idiv X dX11_teachOn_45 (by decide) ?_
      refine g_iadd X dX11_teachOn_46 ?_
      refine g_goto X 72 dX11_teachOn_47 (by decide) ?_
      refine g_iast' X 2 rfl (i := (1 + b)) rfl (by omega) (by omega) (ws' := [(mm, .inr (11, [.int le_, .ref mtx, .int po_, .ref mnu, .int fa_, .int rcl_, .int rle_, .ref mrc, .ref mrw, .ref mrl, .int (nI n), .ref mki, .ref mwa, .int ls_, .ref mle, .ref mno, .ref mtr, .ref mse, .ref mba, .int ba_, .ref mim, .int km_, .int si_, .ref msi, .ref mfo, .int fm_, .ref mor, .ref mbo, .ref mma, .ref mbm, .ref mso])), (mki, .inl (V.2.2.1, 7, .inl k)), (sa, .inl (V.2.2.1, 15, .inl (upd (stF day w g) (1 + b) ((w b) + (((w a) - (w b)) / 2)))))]) rfl dX11_teachOn_72 ?_
      refine g_arr 2 (stF day (upd w b ((w b) + (((w a) - (w b)) / 2))) g) rfl (stF_uw _ _ _ _ b (by omega)) (ws' := [(mm, .inr (11, [.int le_, .ref mtx, .int po_, .ref mnu, .int fa_, .int rcl_, .int rle_, .ref mrc, .ref mrw, .ref mrl, .int (nI n), .ref mki, .ref mwa, .int ls_, .ref mle, .ref mno, .ref mtr, .ref mse, .ref mba, .int ba_, .ref mim, .int km_, .int si_, .ref msi, .ref mfo, .int fm_, .ref mor, .ref mbo, .ref mma, .ref mbm, .ref mso])), (mki, .inl (V.2.2.1, 7, .inl k)), (sa, .inl (V.2.2.1, 15, .inl (stF day (upd w b ((w b) + (((w a) - (w b)) / 2))) g)))]) rfl ?_
      exact g_vret X E dX11_teachOn_73 (upd w b ((w b) + (((w a) - (w b)) / 2))) (learn_slow hB ha hb c6_6 c34_7) rfl

set_option maxHeartbeats 4000000 in
set_option maxRecDepth 100000 in
theorem c_X11_hearOn (V : gV) (mm : Nat) (mtx : Nat) (mnu : Nat) (mrc : Nat) (mrw : Nat) (mrl : Nat) (mki : Nat) (mwa : Nat) (mle : Nat) (mno : Nat) (mtr : Nat) (mse : Nat) (mba : Nat) (mim : Nat) (msi : Nat) (mfo : Nat) (mor : Nat) (mbo : Nat) (mma : Nat) (mbm : Nat) (mso : Nat) (le_ : Int32) (po_ : Int32) (fa_ : Int32) (rcl_ : Int32) (rle_ : Int32) (n : Nat) (ls_ : Int32) (ba_ : Int32) (km_ : Int32) (si_ : Int32) (fm_ : Int32) (day : Int32) (w : Nat → Int32) (g : Nat → Int32) (sa : Nat) (a : Nat) (b : Nat) (hn : n ≤ 7) (ha : a < n) (hb : b < n) (hab : a ≠ b) (hB : Bd n w) : Kv V yX11_hearOn cX11_hearOn 7 ({ frames := 1, cells := 0, slots := 0, locals := 20 }) [.ref mm, .ref sa, .int (nI a), .int (nI b)] [(mm, .inr (11, [.int le_, .ref mtx, .int po_, .ref mnu, .int fa_, .int rcl_, .int rle_, .ref mrc, .ref mrw, .ref mrl, .int (nI n), .ref mki, .ref mwa, .int ls_, .ref mle, .ref mno, .ref mtr, .ref mse, .ref mba, .int ba_, .ref mim, .int km_, .int si_, .ref msi, .ref mfo, .int fm_, .ref mor, .ref mbo, .ref mma, .ref mbm, .ref mso])), (sa, .inl (V.2.2.1, 15, .inl (stF day w g)))] (fun u : (Nat → Int32) => u = nearF a b w) (fun u => [(mm, .inr (11, [.int le_, .ref mtx, .int po_, .ref mnu, .int fa_, .int rcl_, .int rle_, .ref mrc, .ref mrw, .ref mrl, .int (nI n), .ref mki, .ref mwa, .int ls_, .ref mle, .ref mno, .ref mtr, .ref mse, .ref mba, .int ba_, .ref mim, .int km_, .int si_, .ref msi, .ref mfo, .int fm_, .ref mor, .ref mbo, .ref mma, .ref mbm, .ref mso])), (sa, .inl (V.2.2.1, 15, .inl (stF day u g)))]) := by
  refine Kv.of [some (.ref mm), some (.ref sa), some (.int (nI a)), some (.int (nI b)), none, none, none] (by decide) (Nat.le_of_ble_eq_true rfl) rfl rfl ?_
  intro Z X E
  have X : gX V Z RX11 cX11_hearOn 7 ({ frames := 1, cells := 0, slots := 0, locals := 20 }) := X
  refine g_aload_n X dX11_hearOn_0 rfl ?_
  refine g_iconst X (1) dX11_hearOn_1 (by decide) ?_
  refine g_iload_n X dX11_hearOn_2 rfl ?_
  refine g_iadd X dX11_hearOn_3 ?_
  refine g_toe (x' := nI (1 + a)) (nI_add' rfl rfl) ?_
  refine g_iald' X 1 rfl (i := (1 + a)) rfl (by omega) (by omega) dX11_hearOn_4 ?_
  refine g_toe (x' := w a) (stF_w _ _ _ a (by omega)) ?_
  refine g_aload_n X dX11_hearOn_5 rfl ?_
  refine g_iconst X (1) dX11_hearOn_6 (by decide) ?_
  refine g_iload_n X dX11_hearOn_7 rfl ?_
  refine g_iadd X dX11_hearOn_8 ?_
  refine g_toe (x' := nI (1 + b)) (nI_add' rfl rfl) ?_
  refine g_iald' X 1 rfl (i := (1 + b)) rfl (by omega) (by omega) dX11_hearOn_9 ?_
  refine g_toe (x' := w b) (stF_w _ _ _ b (by omega)) ?_
  refine g_isub X dX11_hearOn_10 ?_
  refine g_istore X (L' := [some (.ref mm), some (.ref sa), some (.int (nI a)), some (.int (nI b)), some (.int ((w a) - (w b))), none, none]) dX11_hearOn_11 (by decide) rfl rfl ?_
  refine g_iload X dX11_hearOn_13 rfl ?_
  refine g_if_le X 22 dX11_hearOn_15 (by decide) (fun c15_1 => ?_) (fun c15_1 => ?_)
  · have c15_1d := Int32.not_lt.mpr c15_1
    refine g_iload_n X dX11_hearOn_22 rfl ?_
    refine g_istore X (L' := [some (.ref mm), some (.ref sa), some (.int (nI a)), some (.int (nI b)), some (.int ((w a) - (w b))), some (.int (nI b)), none]) dX11_hearOn_23 (by decide) rfl rfl ?_
    refine g_iload X dX11_hearOn_25 rfl ?_
    refine g_if_le X 34 dX11_hearOn_27 (by decide) (fun c27_2 => ?_) (fun c27_2 => absurd c15_1 c27_2)
    refine g_iload_n X dX11_hearOn_34 rfl ?_
    refine g_istore X (L' := [some (.ref mm), some (.ref sa), some (.int (nI a)), some (.int (nI b)), some (.int ((w a) - (w b))), some (.int (nI b)), some (.int (nI a))]) dX11_hearOn_35 (by decide) rfl rfl ?_
    refine g_iload X dX11_hearOn_37 rfl ?_
    refine g_if_eq X 59 dX11_hearOn_39 (by decide) (fun c39_3 => ?_) (fun c39_3 => ?_)
    · refine g_iload X dX11_hearOn_59 rfl ?_
      refine g_callSi X (c_X11_far V ((w a) - (w b))) mo_X11_far kl_X11_151 [] [0, 0] rfl (by decide +kernel) rfl rfl (fun _ => Nat.le_of_ble_eq_true rfl) (As := [.int ((w a) - (w b))]) (st := []) (cs' := (0, 0)) rfl rfl rfl dX11_hearOn_61 (fun r_8 u_4 hp_5 ws_7 hw_6 => ?_)
      obtain rfl : r_8 = absF ((w a) - (w b)) := hp_5
      have hw_6x : ws_7 = [(mm, .inr (11, [.int le_, .ref mtx, .int po_, .ref mnu, .int fa_, .int rcl_, .int rle_, .ref mrc, .ref mrw, .ref mrl, .int (nI n), .ref mki, .ref mwa, .int ls_, .ref mle, .ref mno, .ref mtr, .ref mse, .ref mba, .int ba_, .ref mim, .int km_, .int si_, .ref msi, .ref mfo, .int fm_, .ref mor, .ref mbo, .ref mma, .ref mbm, .ref mso])), (sa, .inl (V.2.2.1, 15, .inl (stF day w g)))] := hw_6.symm
      clear hw_6; subst hw_6x
      refine g_iconst X (1) dX11_hearOn_64 (by decide) ?_
      refine g_icmp_le X 85 dX11_hearOn_65 (by decide) (fun c65_9 => ?_) (fun c65_9 => ?_)
      · have c65_9d := Int32.not_lt.mpr c65_9
        exact g_vret X E dX11_hearOn_85 w (by rw [← near_eq hB ha hb hab, nearM]; simp [c15_1, c15_1d, c27_2, c39_3, c65_9, c65_9d]) rfl
      · have c65_9d := Int32.not_le.mp c65_9
        exact absurd (by rw [c39_3]; decide) c65_9
    · refine g_aload_n X dX11_hearOn_42 rfl ?_
      refine g_iconst X (1) dX11_hearOn_43 (by decide) ?_
      refine g_iload X dX11_hearOn_44 rfl ?_
      refine g_iadd X dX11_hearOn_46 ?_
      refine g_toe (x' := nI (1 + b)) (nI_add' rfl rfl) ?_
      refine g_aload_n X dX11_hearOn_47 rfl ?_
      refine g_iconst X (1) dX11_hearOn_48 (by decide) ?_
      refine g_iload X dX11_hearOn_49 rfl ?_
      refine g_iadd X dX11_hearOn_51 ?_
      refine g_toe (x' := nI (1 + b)) (nI_add' rfl rfl) ?_
      refine g_iald' X 1 rfl (i := (1 + b)) rfl (by omega) (by omega) dX11_hearOn_52 ?_
      refine g_toe (x' := w b) (stF_w _ _ _ b (by omega)) ?_
      refine g_iconst X (1) dX11_hearOn_53 (by decide) ?_
      refine g_isub X dX11_hearOn_54 ?_
      refine g_callSi X (c_X11_bound V ((w b) - 1)) mo_X11_bound kl_X11_148 [] [0, 0] rfl (by decide +kernel) rfl rfl (fun _ => Nat.le_of_ble_eq_true rfl) (As := [.int ((w b) - 1)]) (st := [.int (nI (1 + b)), .ref sa]) (cs' := (0, 0)) rfl rfl rfl dX11_hearOn_55 (fun r_14 u_10 hp_11 ws_13 hw_12 => ?_)
      obtain rfl : r_14 = clampF ((w b) - 1) := hp_11
      have hw_12x : ws_13 = [(mm, .inr (11, [.int le_, .ref mtx, .int po_, .ref mnu, .int fa_, .int rcl_, .int rle_, .ref mrc, .ref mrw, .ref mrl, .int (nI n), .ref mki, .ref mwa, .int ls_, .ref mle, .ref mno, .ref mtr, .ref mse, .ref mba, .int ba_, .ref mim, .int km_, .int si_, .ref msi, .ref mfo, .int fm_, .ref mor, .ref mbo, .ref mma, .ref mbm, .ref mso])), (sa, .inl (V.2.2.1, 15, .inl (stF day w g)))] := hw_12.symm
      clear hw_12; subst hw_12x
      refine g_iast' X 1 rfl (i := (1 + b)) rfl (by omega) (by omega) (ws' := [(mm, .inr (11, [.int le_, .ref mtx, .int po_, .ref mnu, .int fa_, .int rcl_, .int rle_, .ref mrc, .ref mrw, .ref mrl, .int (nI n), .ref mki, .ref mwa, .int ls_, .ref mle, .ref mno, .ref mtr, .ref mse, .ref mba, .int ba_, .ref mim, .int km_, .int si_, .ref msi, .ref mfo, .int fm_, .ref mor, .ref mbo, .ref mma, .ref mbm, .ref mso])), (sa, .inl (V.2.2.1, 15, .inl (upd (stF day w g) (1 + b) (clampF ((w b) - 1)))))]) rfl dX11_hearOn_58 ?_
      refine g_arr 1 (stF day (upd w b (clampF ((w b) - 1))) g) rfl (stF_uw _ _ _ _ b (by omega)) (ws' := [(mm, .inr (11, [.int le_, .ref mtx, .int po_, .ref mnu, .int fa_, .int rcl_, .int rle_, .ref mrc, .ref mrw, .ref mrl, .int (nI n), .ref mki, .ref mwa, .int ls_, .ref mle, .ref mno, .ref mtr, .ref mse, .ref mba, .int ba_, .ref mim, .int km_, .int si_, .ref msi, .ref mfo, .int fm_, .ref mor, .ref mbo, .ref mma, .ref mbm, .ref mso])), (sa, .inl (V.2.2.1, 15, .inl (stF day (upd w b (clampF ((w b) - 1))) g)))]) rfl ?_
      refine g_iload X dX11_hearOn_59 rfl ?_
      refine g_callSi X (c_X11_far V ((w a) - (w b))) mo_X11_far kl_X11_151 [] [0, 0] rfl (by decide +kernel) rfl rfl (fun _ => Nat.le_of_ble_eq_true rfl) (As := [.int ((w a) - (w b))]) (st := []) (cs' := (0, 0)) rfl rfl rfl dX11_hearOn_61 (fun r_19 u_15 hp_16 ws_18 hw_17 => ?_)
      obtain rfl : r_19 = absF ((w a) - (w b)) := hp_16
      have hw_17x : ws_18 = [(mm, .inr (11, [.int le_, .ref mtx, .int po_, .ref mnu, .int fa_, .int rcl_, .int rle_, .ref mrc, .ref mrw, .ref mrl, .int (nI n), .ref mki, .ref mwa, .int ls_, .ref mle, .ref mno, .ref mtr, .ref mse, .ref mba, .int ba_, .ref mim, .int km_, .int si_, .ref msi, .ref mfo, .int fm_, .ref mor, .ref mbo, .ref mma, .ref mbm, .ref mso])), (sa, .inl (V.2.2.1, 15, .inl (stF day (upd w b (clampF ((w b) - 1))) g)))] := hw_17.symm
      clear hw_17; subst hw_17x
      refine g_iconst X (1) dX11_hearOn_64 (by decide) ?_
      refine g_icmp_le X 85 dX11_hearOn_65 (by decide) (fun c65_20 => ?_) (fun c65_20 => ?_)
      · have c65_20d := Int32.not_lt.mpr c65_20
        exact g_vret X E dX11_hearOn_85 (upd w b (clampF ((w b) - 1))) (by rw [← near_eq hB ha hb hab, nearM]; simp [c15_1, c15_1d, c27_2, c39_3, c65_20, c65_20d]) rfl
      · have c65_20d := Int32.not_le.mp c65_20
        refine g_aload_n X dX11_hearOn_68 rfl ?_
        refine g_iconst X (1) dX11_hearOn_69 (by decide) ?_
        refine g_iload X dX11_hearOn_70 rfl ?_
        refine g_iadd X dX11_hearOn_72 ?_
        refine g_toe (x' := nI (1 + a)) (nI_add' rfl rfl) ?_
        refine g_aload_n X dX11_hearOn_73 rfl ?_
        refine g_iconst X (1) dX11_hearOn_74 (by decide) ?_
        refine g_iload X dX11_hearOn_75 rfl ?_
        refine g_iadd X dX11_hearOn_77 ?_
        refine g_toe (x' := nI (1 + a)) (nI_add' rfl rfl) ?_
        refine g_iald' X 1 rfl (i := (1 + a)) rfl (by omega) (by omega) dX11_hearOn_78 ?_
        refine g_toe (x' := (upd w b (clampF ((w b) - 1))) a) (stF_w _ _ _ a (by omega)) ?_
        refine g_iconst X (1) dX11_hearOn_79 (by decide) ?_
        refine g_iadd X dX11_hearOn_80 ?_
        refine g_callSi X (c_X11_bound V (((upd w b (clampF ((w b) - 1))) a) + 1)) mo_X11_bound kl_X11_148 [] [0, 0] rfl (by decide +kernel) rfl rfl (fun _ => Nat.le_of_ble_eq_true rfl) (As := [.int (((upd w b (clampF ((w b) - 1))) a) + 1)]) (st := [.int (nI (1 + a)), .ref sa]) (cs' := (0, 0)) rfl rfl rfl dX11_hearOn_81 (fun r_25 u_21 hp_22 ws_24 hw_23 => ?_)
        obtain rfl : r_25 = clampF (((upd w b (clampF ((w b) - 1))) a) + 1) := hp_22
        have hw_23x : ws_24 = [(mm, .inr (11, [.int le_, .ref mtx, .int po_, .ref mnu, .int fa_, .int rcl_, .int rle_, .ref mrc, .ref mrw, .ref mrl, .int (nI n), .ref mki, .ref mwa, .int ls_, .ref mle, .ref mno, .ref mtr, .ref mse, .ref mba, .int ba_, .ref mim, .int km_, .int si_, .ref msi, .ref mfo, .int fm_, .ref mor, .ref mbo, .ref mma, .ref mbm, .ref mso])), (sa, .inl (V.2.2.1, 15, .inl (stF day (upd w b (clampF ((w b) - 1))) g)))] := hw_23.symm
        clear hw_23; subst hw_23x
        refine g_iast' X 1 rfl (i := (1 + a)) rfl (by omega) (by omega) (ws' := [(mm, .inr (11, [.int le_, .ref mtx, .int po_, .ref mnu, .int fa_, .int rcl_, .int rle_, .ref mrc, .ref mrw, .ref mrl, .int (nI n), .ref mki, .ref mwa, .int ls_, .ref mle, .ref mno, .ref mtr, .ref mse, .ref mba, .int ba_, .ref mim, .int km_, .int si_, .ref msi, .ref mfo, .int fm_, .ref mor, .ref mbo, .ref mma, .ref mbm, .ref mso])), (sa, .inl (V.2.2.1, 15, .inl (upd (stF day (upd w b (clampF ((w b) - 1))) g) (1 + a) (clampF (((upd w b (clampF ((w b) - 1))) a) + 1)))))]) rfl dX11_hearOn_84 ?_
        refine g_arr 1 (stF day (upd (upd w b (clampF ((w b) - 1))) a (clampF (((upd w b (clampF ((w b) - 1))) a) + 1))) g) rfl (stF_uw _ _ _ _ a (by omega)) (ws' := [(mm, .inr (11, [.int le_, .ref mtx, .int po_, .ref mnu, .int fa_, .int rcl_, .int rle_, .ref mrc, .ref mrw, .ref mrl, .int (nI n), .ref mki, .ref mwa, .int ls_, .ref mle, .ref mno, .ref mtr, .ref mse, .ref mba, .int ba_, .ref mim, .int km_, .int si_, .ref msi, .ref mfo, .int fm_, .ref mor, .ref mbo, .ref mma, .ref mbm, .ref mso])), (sa, .inl (V.2.2.1, 15, .inl (stF day (upd (upd w b (clampF ((w b) - 1))) a (clampF (((upd w b (clampF ((w b) - 1))) a) + 1))) g)))]) rfl ?_
        exact g_vret X E dX11_hearOn_85 (upd (upd w b (clampF ((w b) - 1))) a (clampF (((upd w b (clampF ((w b) - 1))) a) + 1))) (by rw [← near_eq hB ha hb hab, nearM]; simp [c15_1, c15_1d, c27_2, c39_3, c65_20, c65_20d]) rfl
  · have c15_1d := Int32.not_le.mp c15_1
    refine g_iload_n X dX11_hearOn_18 rfl ?_
    refine g_goto X 23 dX11_hearOn_19 (by decide) ?_
    refine g_istore X (L' := [some (.ref mm), some (.ref sa), some (.int (nI a)), some (.int (nI b)), some (.int ((w a) - (w b))), some (.int (nI a)), none]) dX11_hearOn_23 (by decide) rfl rfl ?_
    refine g_iload X dX11_hearOn_25 rfl ?_
    refine g_if_le X 34 dX11_hearOn_27 (by decide) (fun c27_26 => absurd c27_26 c15_1) (fun c27_26 => ?_)
    refine g_iload_n X dX11_hearOn_30 rfl ?_
    refine g_goto X 35 dX11_hearOn_31 (by decide) ?_
    refine g_istore X (L' := [some (.ref mm), some (.ref sa), some (.int (nI a)), some (.int (nI b)), some (.int ((w a) - (w b))), some (.int (nI a)), some (.int (nI b))]) dX11_hearOn_35 (by decide) rfl rfl ?_
    refine g_iload X dX11_hearOn_37 rfl ?_
    refine g_if_eq X 59 dX11_hearOn_39 (by decide) (fun c39_27 => ?_) (fun c39_27 => ?_)
    · refine g_iload X dX11_hearOn_59 rfl ?_
      refine g_callSi X (c_X11_far V ((w a) - (w b))) mo_X11_far kl_X11_151 [] [0, 0] rfl (by decide +kernel) rfl rfl (fun _ => Nat.le_of_ble_eq_true rfl) (As := [.int ((w a) - (w b))]) (st := []) (cs' := (0, 0)) rfl rfl rfl dX11_hearOn_61 (fun r_32 u_28 hp_29 ws_31 hw_30 => ?_)
      obtain rfl : r_32 = absF ((w a) - (w b)) := hp_29
      have hw_30x : ws_31 = [(mm, .inr (11, [.int le_, .ref mtx, .int po_, .ref mnu, .int fa_, .int rcl_, .int rle_, .ref mrc, .ref mrw, .ref mrl, .int (nI n), .ref mki, .ref mwa, .int ls_, .ref mle, .ref mno, .ref mtr, .ref mse, .ref mba, .int ba_, .ref mim, .int km_, .int si_, .ref msi, .ref mfo, .int fm_, .ref mor, .ref mbo, .ref mma, .ref mbm, .ref mso])), (sa, .inl (V.2.2.1, 15, .inl (stF day w g)))] := hw_30.symm
      clear hw_30; subst hw_30x
      refine g_iconst X (1) dX11_hearOn_64 (by decide) ?_
      refine g_icmp_le X 85 dX11_hearOn_65 (by decide) (fun c65_33 => ?_) (fun c65_33 => ?_)
      · have c65_33d := Int32.not_lt.mpr c65_33
        exact g_vret X E dX11_hearOn_85 w (by rw [← near_eq hB ha hb hab, nearM]; simp [c15_1, c15_1d, c27_26, c39_27, c65_33, c65_33d]) rfl
      · have c65_33d := Int32.not_le.mp c65_33
        exact absurd (by rw [c39_27]; decide) c65_33
    · refine g_aload_n X dX11_hearOn_42 rfl ?_
      refine g_iconst X (1) dX11_hearOn_43 (by decide) ?_
      refine g_iload X dX11_hearOn_44 rfl ?_
      refine g_iadd X dX11_hearOn_46 ?_
      refine g_toe (x' := nI (1 + a)) (nI_add' rfl rfl) ?_
      refine g_aload_n X dX11_hearOn_47 rfl ?_
      refine g_iconst X (1) dX11_hearOn_48 (by decide) ?_
      refine g_iload X dX11_hearOn_49 rfl ?_
      refine g_iadd X dX11_hearOn_51 ?_
      refine g_toe (x' := nI (1 + a)) (nI_add' rfl rfl) ?_
      refine g_iald' X 1 rfl (i := (1 + a)) rfl (by omega) (by omega) dX11_hearOn_52 ?_
      refine g_toe (x' := w a) (stF_w _ _ _ a (by omega)) ?_
      refine g_iconst X (1) dX11_hearOn_53 (by decide) ?_
      refine g_isub X dX11_hearOn_54 ?_
      refine g_callSi X (c_X11_bound V ((w a) - 1)) mo_X11_bound kl_X11_148 [] [0, 0] rfl (by decide +kernel) rfl rfl (fun _ => Nat.le_of_ble_eq_true rfl) (As := [.int ((w a) - 1)]) (st := [.int (nI (1 + a)), .ref sa]) (cs' := (0, 0)) rfl rfl rfl dX11_hearOn_55 (fun r_38 u_34 hp_35 ws_37 hw_36 => ?_)
      obtain rfl : r_38 = clampF ((w a) - 1) := hp_35
      have hw_36x : ws_37 = [(mm, .inr (11, [.int le_, .ref mtx, .int po_, .ref mnu, .int fa_, .int rcl_, .int rle_, .ref mrc, .ref mrw, .ref mrl, .int (nI n), .ref mki, .ref mwa, .int ls_, .ref mle, .ref mno, .ref mtr, .ref mse, .ref mba, .int ba_, .ref mim, .int km_, .int si_, .ref msi, .ref mfo, .int fm_, .ref mor, .ref mbo, .ref mma, .ref mbm, .ref mso])), (sa, .inl (V.2.2.1, 15, .inl (stF day w g)))] := hw_36.symm
      clear hw_36; subst hw_36x
      refine g_iast' X 1 rfl (i := (1 + a)) rfl (by omega) (by omega) (ws' := [(mm, .inr (11, [.int le_, .ref mtx, .int po_, .ref mnu, .int fa_, .int rcl_, .int rle_, .ref mrc, .ref mrw, .ref mrl, .int (nI n), .ref mki, .ref mwa, .int ls_, .ref mle, .ref mno, .ref mtr, .ref mse, .ref mba, .int ba_, .ref mim, .int km_, .int si_, .ref msi, .ref mfo, .int fm_, .ref mor, .ref mbo, .ref mma, .ref mbm, .ref mso])), (sa, .inl (V.2.2.1, 15, .inl (upd (stF day w g) (1 + a) (clampF ((w a) - 1)))))]) rfl dX11_hearOn_58 ?_
      refine g_arr 1 (stF day (upd w a (clampF ((w a) - 1))) g) rfl (stF_uw _ _ _ _ a (by omega)) (ws' := [(mm, .inr (11, [.int le_, .ref mtx, .int po_, .ref mnu, .int fa_, .int rcl_, .int rle_, .ref mrc, .ref mrw, .ref mrl, .int (nI n), .ref mki, .ref mwa, .int ls_, .ref mle, .ref mno, .ref mtr, .ref mse, .ref mba, .int ba_, .ref mim, .int km_, .int si_, .ref msi, .ref mfo, .int fm_, .ref mor, .ref mbo, .ref mma, .ref mbm, .ref mso])), (sa, .inl (V.2.2.1, 15, .inl (stF day (upd w a (clampF ((w a) - 1))) g)))]) rfl ?_
      refine g_iload X dX11_hearOn_59 rfl ?_
      refine g_callSi X (c_X11_far V ((w a) - (w b))) mo_X11_far kl_X11_151 [] [0, 0] rfl (by decide +kernel) rfl rfl (fun _ => Nat.le_of_ble_eq_true rfl) (As := [.int ((w a) - (w b))]) (st := []) (cs' := (0, 0)) rfl rfl rfl dX11_hearOn_61 (fun r_43 u_39 hp_40 ws_42 hw_41 => ?_)
      obtain rfl : r_43 = absF ((w a) - (w b)) := hp_40
      have hw_41x : ws_42 = [(mm, .inr (11, [.int le_, .ref mtx, .int po_, .ref mnu, .int fa_, .int rcl_, .int rle_, .ref mrc, .ref mrw, .ref mrl, .int (nI n), .ref mki, .ref mwa, .int ls_, .ref mle, .ref mno, .ref mtr, .ref mse, .ref mba, .int ba_, .ref mim, .int km_, .int si_, .ref msi, .ref mfo, .int fm_, .ref mor, .ref mbo, .ref mma, .ref mbm, .ref mso])), (sa, .inl (V.2.2.1, 15, .inl (stF day (upd w a (clampF ((w a) - 1))) g)))] := hw_41.symm
      clear hw_41; subst hw_41x
      refine g_iconst X (1) dX11_hearOn_64 (by decide) ?_
      refine g_icmp_le X 85 dX11_hearOn_65 (by decide) (fun c65_44 => ?_) (fun c65_44 => ?_)
      · have c65_44d := Int32.not_lt.mpr c65_44
        exact g_vret X E dX11_hearOn_85 (upd w a (clampF ((w a) - 1))) (by rw [← near_eq hB ha hb hab, nearM]; simp [c15_1, c15_1d, c27_26, c39_27, c65_44, c65_44d]) rfl
      · have c65_44d := Int32.not_le.mp c65_44
        refine g_aload_n X dX11_hearOn_68 rfl ?_
        refine g_iconst X (1) dX11_hearOn_69 (by decide) ?_
        refine g_iload X dX11_hearOn_70 rfl ?_
        refine g_iadd X dX11_hearOn_72 ?_
        refine g_toe (x' := nI (1 + b)) (nI_add' rfl rfl) ?_
        refine g_aload_n X dX11_hearOn_73 rfl ?_
        refine g_iconst X (1) dX11_hearOn_74 (by decide) ?_
        refine g_iload X dX11_hearOn_75 rfl ?_
        refine g_iadd X dX11_hearOn_77 ?_
        refine g_toe (x' := nI (1 + b)) (nI_add' rfl rfl) ?_
        refine g_iald' X 1 rfl (i := (1 + b)) rfl (by omega) (by omega) dX11_hearOn_78 ?_
        refine g_toe (x' := (upd w a (clampF ((w a) - 1))) b) (stF_w _ _ _ b (by omega)) ?_
        refine g_iconst X (1) dX11_hearOn_79 (by decide) ?_
        refine g_iadd X dX11_hearOn_80 ?_
        refine g_callSi X (c_X11_bound V (((upd w a (clampF ((w a) - 1))) b) + 1)) mo_X11_bound kl_X11_148 [] [0, 0] rfl (by decide +kernel) rfl rfl (fun _ => Nat.le_of_ble_eq_true rfl) (As := [.int (((upd w a (clampF ((w a) - 1))) b) + 1)]) (st := [.int (nI (1 + b)), .ref sa]) (cs' := (0, 0)) rfl rfl rfl dX11_hearOn_81 (fun r_49 u_45 hp_46 ws_48 hw_47 => ?_)
        obtain rfl : r_49 = clampF (((upd w a (clampF ((w a) - 1))) b) + 1) := hp_46
        have hw_47x : ws_48 = [(mm, .inr (11, [.int le_, .ref mtx, .int po_, .ref mnu, .int fa_, .int rcl_, .int rle_, .ref mrc, .ref mrw, .ref mrl, .int (nI n), .ref mki, .ref mwa, .int ls_, .ref mle, .ref mno, .ref mtr, .ref mse, .ref mba, .int ba_, .ref mim, .int km_, .int si_, .ref msi, .ref mfo, .int fm_, .ref mor, .ref mbo, .ref mma, .ref mbm, .ref mso])), (sa, .inl (V.2.2.1, 15, .inl (stF day (upd w a (clampF ((w a) - 1))) g)))] := hw_47.symm
        clear hw_47; subst hw_47x
        refine g_iast' X 1 rfl (i := (1 + b)) rfl (by omega) (by omega) (ws' := [(mm, .inr (11, [.int le_, .ref mtx, .int po_, .ref mnu, .int fa_, .int rcl_, .int rle_, .ref mrc, .ref mrw, .ref mrl, .int (nI n), .ref mki, .ref mwa, .int ls_, .ref mle, .ref mno, .ref mtr, .ref mse, .ref mba, .int ba_, .ref mim, .int km_, .int si_, .ref msi, .ref mfo, .int fm_, .ref mor, .ref mbo, .ref mma, .ref mbm, .ref mso])), (sa, .inl (V.2.2.1, 15, .inl (upd (stF day (upd w a (clampF ((w a) - 1))) g) (1 + b) (clampF (((upd w a (clampF ((w a) - 1))) b) + 1)))))]) rfl dX11_hearOn_84 ?_
        refine g_arr 1 (stF day (upd (upd w a (clampF ((w a) - 1))) b (clampF (((upd w a (clampF ((w a) - 1))) b) + 1))) g) rfl (stF_uw _ _ _ _ b (by omega)) (ws' := [(mm, .inr (11, [.int le_, .ref mtx, .int po_, .ref mnu, .int fa_, .int rcl_, .int rle_, .ref mrc, .ref mrw, .ref mrl, .int (nI n), .ref mki, .ref mwa, .int ls_, .ref mle, .ref mno, .ref mtr, .ref mse, .ref mba, .int ba_, .ref mim, .int km_, .int si_, .ref msi, .ref mfo, .int fm_, .ref mor, .ref mbo, .ref mma, .ref mbm, .ref mso])), (sa, .inl (V.2.2.1, 15, .inl (stF day (upd (upd w a (clampF ((w a) - 1))) b (clampF (((upd w a (clampF ((w a) - 1))) b) + 1))) g)))]) rfl ?_
        exact g_vret X E dX11_hearOn_85 (upd (upd w a (clampF ((w a) - 1))) b (clampF (((upd w a (clampF ((w a) - 1))) b) + 1))) (by rw [← near_eq hB ha hb hab, nearM]; simp [c15_1, c15_1d, c27_26, c39_27, c65_44, c65_44d]) rfl

set_option maxHeartbeats 4000000 in
set_option maxRecDepth 100000 in
theorem c_X11_passOn (V : gV) (mm : Nat) (mtx : Nat) (mnu : Nat) (mrc : Nat) (mrw : Nat) (mrl : Nat) (mki : Nat) (mwa : Nat) (mle : Nat) (mno : Nat) (mtr : Nat) (mse : Nat) (mba : Nat) (mim : Nat) (msi : Nat) (mfo : Nat) (mor : Nat) (mbo : Nat) (mma : Nat) (mbm : Nat) (mso : Nat) (le_ : Int32) (po_ : Int32) (fa_ : Int32) (rcl_ : Int32) (rle_ : Int32) (n : Nat) (m : Nat) (ba_ : Int32) (km_ : Int32) (si_ : Int32) (fm_ : Int32) (k : Nat → Int32) (wb : Nat → Int32) (ld : Nat → Nat) (te : Nat → Nat) (pu : Nat → Nat) (day : Int32) (w : Nat → Int32) (g : Nat → Int32) (sa : Nat) (carry : Int32) (hn : n ≤ 7) (h1n : 1 ≤ n) (hm : m ≤ 9) (ht : ∀ i, i < m → te i < n ∧ pu i < n) (hB : Bd n w) : Kv V yX11_passOn cX11_passOn 5 ({ frames := 2, cells := 0, slots := 0, locals := 47 }) [.ref mm, .ref sa, .int carry] [(mm, .inr (11, [.int le_, .ref mtx, .int po_, .ref mnu, .int fa_, .int rcl_, .int rle_, .ref mrc, .ref mrw, .ref mrl, .int (nI n), .ref mki, .ref mwa, .int (nI m), .ref mle, .ref mno, .ref mtr, .ref mse, .ref mba, .int ba_, .ref mim, .int km_, .int si_, .ref msi, .ref mfo, .int fm_, .ref mor, .ref mbo, .ref mma, .ref mbm, .ref mso])), (mki, .inl (V.2.2.1, 7, .inl k)), (mwa, .inl (V.2.2.1, 7, .inl wb)), (mle, .inl (V.2.2.1, 27, .inl (leF ld te pu))), (sa, .inl (V.2.2.1, 15, .inl (stF day w g)))] (fun u : (Nat → Int32) => u = dayF k wb ld te pu n m g carry day w) (fun u => [(mm, .inr (11, [.int le_, .ref mtx, .int po_, .ref mnu, .int fa_, .int rcl_, .int rle_, .ref mrc, .ref mrw, .ref mrl, .int (nI n), .ref mki, .ref mwa, .int (nI m), .ref mle, .ref mno, .ref mtr, .ref mse, .ref mba, .int ba_, .ref mim, .int km_, .int si_, .ref msi, .ref mfo, .int fm_, .ref mor, .ref mbo, .ref mma, .ref mbm, .ref mso])), (mki, .inl (V.2.2.1, 7, .inl k)), (mwa, .inl (V.2.2.1, 7, .inl wb)), (mle, .inl (V.2.2.1, 27, .inl (leF ld te pu))), (sa, .inl (V.2.2.1, 15, .inl (stF (day + 1) u g)))]) := by
  refine Kv.of [some (.ref mm), some (.ref sa), some (.int carry), none, none] (by decide) (Nat.le_of_ble_eq_true rfl) rfl rfl ?_
  intro Z X E
  have X : gX V Z RX11 cX11_passOn 5 ({ frames := 2, cells := 0, slots := 0, locals := 47 }) := X
  refine g_iconst X (0) dX11_passOn_0 (by decide) ?_
  refine g_istore_n X (L' := [some (.ref mm), some (.ref sa), some (.int carry), some (.int 0), none]) dX11_passOn_1 (by decide) rfl rfl ?_
  have loop2 : ∀ (d2 i : Nat), i + d2 = m → ∀ (w1 : Nat → Int32) (hB1 : Bd n w1) (h1 : w1 = toldF k ld te pu i day w), G V Z 5 (0, 0) [(mm, .inr (11, [.int le_, .ref mtx, .int po_, .ref mnu, .int fa_, .int rcl_, .int rle_, .ref mrc, .ref mrw, .ref mrl, .int (nI n), .ref mki, .ref mwa, .int (nI m), .ref mle, .ref mno, .ref mtr, .ref mse, .ref mba, .int ba_, .ref mim, .int km_, .int si_, .ref msi, .ref mfo, .int fm_, .ref mor, .ref mbo, .ref mma, .ref mbm, .ref mso])), (mki, .inl (V.2.2.1, 7, .inl k)), (mwa, .inl (V.2.2.1, 7, .inl wb)), (mle, .inl (V.2.2.1, 27, .inl (leF ld te pu))), (sa, .inl (V.2.2.1, 15, .inl (stF day w1 g)))] 2 [some (.ref mm), some (.ref sa), some (.int carry), some (.int (nI i)), none] [] := by
    intro d2
    induction d2 with
    | zero =>
      intro i hi w1 hB1 h1
      refine g_iload_n X dX11_passOn_2 rfl ?_
      refine g_aload_n X dX11_passOn_3 rfl ?_
      refine g_get X uwX11 0 rfl rfl 13 (by decide) kl_X11_122 rfl rfl gwX11 dX11_passOn_4 ?_
      refine g_icmp_ge X 58 dX11_passOn_7 (by decide) (fun c7_1 => ?_) (fun c7_1 => absurd (tge (a := i) (b := m) (by omega) (by omega) (by omega)) c7_1)
      by_cases hca : carry = 0
      · refine g_iconst X (0) dX11_passOn_58 (by decide) ?_
        refine g_istore_n X (L' := [some (.ref mm), some (.ref sa), some (.int carry), some (.int 0), none]) dX11_passOn_59 (by decide) rfl rfl ?_
        refine g_iload_n X dX11_passOn_60 rfl ?_
        refine g_aload_n X dX11_passOn_61 rfl ?_
        refine g_get X uwX11 0 rfl rfl 10 (by decide) kl_X11_91 rfl rfl gwX11 dX11_passOn_62 ?_
        refine g_icmp_ge X 120 dX11_passOn_65 (by decide) (fun c65_2 => absurd c65_2 (fge (a := 0) (b := n) (by omega) (by omega) (by omega))) (fun c65_2 => ?_)
        refine g_iload_n X dX11_passOn_68 rfl ?_
        refine g_if_eq X 120 dX11_passOn_69 (by decide) (fun c69_3 => ?_) (fun c69_3 => absurd hca c69_3)
        refine g_iconst X (0) dX11_passOn_120 (by decide) ?_
        refine g_istore_n X (L' := [some (.ref mm), some (.ref sa), some (.int carry), some (.int 0), none]) dX11_passOn_121 (by decide) rfl rfl ?_
        have loop122_4 : ∀ (d122 c : Nat), c + d122 = n → ∀ (w4 : Nat → Int32) (h4 : w4 = gainF g c w1), G V Z 5 (0, 0) [(mm, .inr (11, [.int le_, .ref mtx, .int po_, .ref mnu, .int fa_, .int rcl_, .int rle_, .ref mrc, .ref mrw, .ref mrl, .int (nI n), .ref mki, .ref mwa, .int (nI m), .ref mle, .ref mno, .ref mtr, .ref mse, .ref mba, .int ba_, .ref mim, .int km_, .int si_, .ref msi, .ref mfo, .int fm_, .ref mor, .ref mbo, .ref mma, .ref mbm, .ref mso])), (mki, .inl (V.2.2.1, 7, .inl k)), (mwa, .inl (V.2.2.1, 7, .inl wb)), (mle, .inl (V.2.2.1, 27, .inl (leF ld te pu))), (sa, .inl (V.2.2.1, 15, .inl (stF day w4 g)))] 122 [some (.ref mm), some (.ref sa), some (.int carry), some (.int (nI c)), none] [] := by
          intro d122
          induction d122 with
          | zero =>
            intro c hc w4 h4
            refine g_iload_n X dX11_passOn_122 rfl ?_
            refine g_aload_n X dX11_passOn_123 rfl ?_
            refine g_get X uwX11 0 rfl rfl 10 (by decide) kl_X11_91 rfl rfl gwX11 dX11_passOn_124 ?_
            refine g_icmp_ge X 156 dX11_passOn_127 (by decide) (fun c127_5 => ?_) (fun c127_5 => absurd (tge (a := c) (b := n) (by omega) (by omega) (by omega)) c127_5)
            refine g_aload_n X dX11_passOn_156 rfl ?_
            refine g_iconst X (0) dX11_passOn_157 (by decide) ?_
            refine g_dup2 X dX11_passOn_158 rfl rfl ?_
            refine g_iald' X 4 rfl (i := 0) rfl (by omega) (by omega) dX11_passOn_159 ?_
            refine g_toe (x' := day) rfl ?_
            refine g_iconst X (1) dX11_passOn_160 (by decide) ?_
            refine g_iadd X dX11_passOn_161 ?_
            refine g_iast' X 4 rfl (i := 0) rfl (by omega) (by omega) (ws' := [(mm, .inr (11, [.int le_, .ref mtx, .int po_, .ref mnu, .int fa_, .int rcl_, .int rle_, .ref mrc, .ref mrw, .ref mrl, .int (nI n), .ref mki, .ref mwa, .int (nI m), .ref mle, .ref mno, .ref mtr, .ref mse, .ref mba, .int ba_, .ref mim, .int km_, .int si_, .ref msi, .ref mfo, .int fm_, .ref mor, .ref mbo, .ref mma, .ref mbm, .ref mso])), (mki, .inl (V.2.2.1, 7, .inl k)), (mwa, .inl (V.2.2.1, 7, .inl wb)), (mle, .inl (V.2.2.1, 27, .inl (leF ld te pu))), (sa, .inl (V.2.2.1, 15, .inl (upd (stF day w4 g) 0 (day + 1))))]) rfl dX11_passOn_162 ?_
            refine g_arr 4 (stF (day + 1) w4 g) rfl (stF_u0 _ _ _ _) (ws' := [(mm, .inr (11, [.int le_, .ref mtx, .int po_, .ref mnu, .int fa_, .int rcl_, .int rle_, .ref mrc, .ref mrw, .ref mrl, .int (nI n), .ref mki, .ref mwa, .int (nI m), .ref mle, .ref mno, .ref mtr, .ref mse, .ref mba, .int ba_, .ref mim, .int km_, .int si_, .ref msi, .ref mfo, .int fm_, .ref mor, .ref mbo, .ref mma, .ref mbm, .ref mso])), (mki, .inl (V.2.2.1, 7, .inl k)), (mwa, .inl (V.2.2.1, 7, .inl wb)), (mle, .inl (V.2.2.1, 27, .inl (leF ld te pu))), (sa, .inl (V.2.2.1, 15, .inl (stF (day + 1) w4 g)))]) rfl ?_
            exact g_vret X E dX11_passOn_163 w4 (by have e : c = n := (by omega); subst e; rw [h4, dayF, if_pos hca, h1, show m = i by omega]) rfl
          | succ d122 ih122 =>
            intro c hc w4 h4
            refine g_iload_n X dX11_passOn_122 rfl ?_
            refine g_aload_n X dX11_passOn_123 rfl ?_
            refine g_get X uwX11 0 rfl rfl 10 (by decide) kl_X11_91 rfl rfl gwX11 dX11_passOn_124 ?_
            refine g_icmp_ge X 156 dX11_passOn_127 (by decide) (fun c127_6 => absurd c127_6 (fge (a := c) (b := n) (by omega) (by omega) (by omega))) (fun c127_6 => ?_)
            refine g_aload_n X dX11_passOn_130 rfl ?_
            refine g_iconst X (1) dX11_passOn_131 (by decide) ?_
            refine g_iload_n X dX11_passOn_132 rfl ?_
            refine g_iadd X dX11_passOn_133 ?_
            refine g_toe (x' := nI (1 + c)) (nI_add' rfl rfl) ?_
            refine g_aload_n X dX11_passOn_134 rfl ?_
            refine g_iconst X (1) dX11_passOn_135 (by decide) ?_
            refine g_iload_n X dX11_passOn_136 rfl ?_
            refine g_iadd X dX11_passOn_137 ?_
            refine g_toe (x' := nI (1 + c)) (nI_add' rfl rfl) ?_
            refine g_iald' X 4 rfl (i := (1 + c)) rfl (by omega) (by omega) dX11_passOn_138 ?_
            refine g_toe (x' := w4 c) (stF_w _ _ _ c (by omega)) ?_
            refine g_aload_n X dX11_passOn_139 rfl ?_
            refine g_bipush X (8) dX11_passOn_140 (by decide) ?_
            refine g_iload_n X dX11_passOn_142 rfl ?_
            refine g_iadd X dX11_passOn_143 ?_
            refine g_toe (x' := nI (8 + c)) (nI_add' rfl rfl) ?_
            refine g_iald' X 4 rfl (i := (8 + c)) rfl (by omega) (by omega) dX11_passOn_144 ?_
            refine g_toe (x' := g c) (stF_g _ _ _ c) ?_
            refine g_iadd X dX11_passOn_145 ?_
            refine g_callSi X (c_X11_bound V ((w4 c) + (g c))) mo_X11_bound kl_X11_148 [] [0, 0, 0, 0, 0] rfl (by decide +kernel) rfl rfl (fun _ => Nat.le_of_ble_eq_true rfl) (As := [.int ((w4 c) + (g c))]) (st := [.int (nI (1 + c)), .ref sa]) (cs' := (0, 0)) rfl rfl rfl dX11_passOn_146 (fun r_11 u_7 hp_8 ws_10 hw_9 => ?_)
            obtain rfl : r_11 = clampF ((w4 c) + (g c)) := hp_8
            have hw_9x : ws_10 = [(mm, .inr (11, [.int le_, .ref mtx, .int po_, .ref mnu, .int fa_, .int rcl_, .int rle_, .ref mrc, .ref mrw, .ref mrl, .int (nI n), .ref mki, .ref mwa, .int (nI m), .ref mle, .ref mno, .ref mtr, .ref mse, .ref mba, .int ba_, .ref mim, .int km_, .int si_, .ref msi, .ref mfo, .int fm_, .ref mor, .ref mbo, .ref mma, .ref mbm, .ref mso])), (mki, .inl (V.2.2.1, 7, .inl k)), (mwa, .inl (V.2.2.1, 7, .inl wb)), (mle, .inl (V.2.2.1, 27, .inl (leF ld te pu))), (sa, .inl (V.2.2.1, 15, .inl (stF day w4 g)))] := hw_9.symm
            clear hw_9; subst hw_9x
            refine g_iast' X 4 rfl (i := (1 + c)) rfl (by omega) (by omega) (ws' := [(mm, .inr (11, [.int le_, .ref mtx, .int po_, .ref mnu, .int fa_, .int rcl_, .int rle_, .ref mrc, .ref mrw, .ref mrl, .int (nI n), .ref mki, .ref mwa, .int (nI m), .ref mle, .ref mno, .ref mtr, .ref mse, .ref mba, .int ba_, .ref mim, .int km_, .int si_, .ref msi, .ref mfo, .int fm_, .ref mor, .ref mbo, .ref mma, .ref mbm, .ref mso])), (mki, .inl (V.2.2.1, 7, .inl k)), (mwa, .inl (V.2.2.1, 7, .inl wb)), (mle, .inl (V.2.2.1, 27, .inl (leF ld te pu))), (sa, .inl (V.2.2.1, 15, .inl (upd (stF day w4 g) (1 + c) (clampF ((w4 c) + (g c))))))]) rfl dX11_passOn_149 ?_
            refine g_arr 4 (stF day (upd w4 c (clampF ((w4 c) + (g c)))) g) rfl (stF_uw _ _ _ _ c (by omega)) (ws' := [(mm, .inr (11, [.int le_, .ref mtx, .int po_, .ref mnu, .int fa_, .int rcl_, .int rle_, .ref mrc, .ref mrw, .ref mrl, .int (nI n), .ref mki, .ref mwa, .int (nI m), .ref mle, .ref mno, .ref mtr, .ref mse, .ref mba, .int ba_, .ref mim, .int km_, .int si_, .ref msi, .ref mfo, .int fm_, .ref mor, .ref mbo, .ref mma, .ref mbm, .ref mso])), (mki, .inl (V.2.2.1, 7, .inl k)), (mwa, .inl (V.2.2.1, 7, .inl wb)), (mle, .inl (V.2.2.1, 27, .inl (leF ld te pu))), (sa, .inl (V.2.2.1, 15, .inl (stF day (upd w4 c (clampF ((w4 c) + (g c)))) g)))]) rfl ?_
            refine g_iinc X (v := nI (c + 1)) (L' := [some (.ref mm), some (.ref sa), some (.int carry), some (.int (nI (c + 1))), none]) dX11_passOn_150 rfl (nI_addk (by decide)) (by decide) rfl rfl ?_
            refine g_goto X 122 dX11_passOn_153 (by decide) ?_
            exact ih122 (c + 1) (by omega) (upd w4 c (clampF ((w4 c) + (g c)))) (by rw [gainF, it_s, ← gainF, ← h4])
        exact loop122_4 n 0 (by omega) w1 rfl
      · refine g_iconst X (0) dX11_passOn_58 (by decide) ?_
        refine g_istore_n X (L' := [some (.ref mm), some (.ref sa), some (.int carry), some (.int 0), none]) dX11_passOn_59 (by decide) rfl rfl ?_
        have loop60_12 : ∀ (d60 a : Nat), a + d60 = n → ∀ (w2 : Nat → Int32) (hB2 : Bd n w2) (h2 : w2 = hearG wb n a w1), G V Z 5 (0, 0) [(mm, .inr (11, [.int le_, .ref mtx, .int po_, .ref mnu, .int fa_, .int rcl_, .int rle_, .ref mrc, .ref mrw, .ref mrl, .int (nI n), .ref mki, .ref mwa, .int (nI m), .ref mle, .ref mno, .ref mtr, .ref mse, .ref mba, .int ba_, .ref mim, .int km_, .int si_, .ref msi, .ref mfo, .int fm_, .ref mor, .ref mbo, .ref mma, .ref mbm, .ref mso])), (mki, .inl (V.2.2.1, 7, .inl k)), (mwa, .inl (V.2.2.1, 7, .inl wb)), (mle, .inl (V.2.2.1, 27, .inl (leF ld te pu))), (sa, .inl (V.2.2.1, 15, .inl (stF day w2 g)))] 60 [some (.ref mm), some (.ref sa), some (.int carry), some (.int (nI a)), none] [] := by
          intro d60
          induction d60 with
          | zero =>
            intro a ha w2 hB2 h2
            refine g_iload_n X dX11_passOn_60 rfl ?_
            refine g_aload_n X dX11_passOn_61 rfl ?_
            refine g_get X uwX11 0 rfl rfl 10 (by decide) kl_X11_91 rfl rfl gwX11 dX11_passOn_62 ?_
            refine g_icmp_ge X 120 dX11_passOn_65 (by decide) (fun c65_13 => ?_) (fun c65_13 => absurd (tge (a := a) (b := n) (by omega) (by omega) (by omega)) c65_13)
            refine g_iconst X (0) dX11_passOn_120 (by decide) ?_
            refine g_istore_n X (L' := [some (.ref mm), some (.ref sa), some (.int carry), some (.int 0), none]) dX11_passOn_121 (by decide) rfl rfl ?_
            have loop122_14 : ∀ (d122 c : Nat), c + d122 = n → ∀ (w4 : Nat → Int32) (h4 : w4 = gainF g c w2), G V Z 5 (0, 0) [(mm, .inr (11, [.int le_, .ref mtx, .int po_, .ref mnu, .int fa_, .int rcl_, .int rle_, .ref mrc, .ref mrw, .ref mrl, .int (nI n), .ref mki, .ref mwa, .int (nI m), .ref mle, .ref mno, .ref mtr, .ref mse, .ref mba, .int ba_, .ref mim, .int km_, .int si_, .ref msi, .ref mfo, .int fm_, .ref mor, .ref mbo, .ref mma, .ref mbm, .ref mso])), (mki, .inl (V.2.2.1, 7, .inl k)), (mwa, .inl (V.2.2.1, 7, .inl wb)), (mle, .inl (V.2.2.1, 27, .inl (leF ld te pu))), (sa, .inl (V.2.2.1, 15, .inl (stF day w4 g)))] 122 [some (.ref mm), some (.ref sa), some (.int carry), some (.int (nI c)), none] [] := by
              intro d122
              induction d122 with
              | zero =>
                intro c hc w4 h4
                refine g_iload_n X dX11_passOn_122 rfl ?_
                refine g_aload_n X dX11_passOn_123 rfl ?_
                refine g_get X uwX11 0 rfl rfl 10 (by decide) kl_X11_91 rfl rfl gwX11 dX11_passOn_124 ?_
                refine g_icmp_ge X 156 dX11_passOn_127 (by decide) (fun c127_15 => ?_) (fun c127_15 => absurd (tge (a := c) (b := n) (by omega) (by omega) (by omega)) c127_15)
                refine g_aload_n X dX11_passOn_156 rfl ?_
                refine g_iconst X (0) dX11_passOn_157 (by decide) ?_
                refine g_dup2 X dX11_passOn_158 rfl rfl ?_
                refine g_iald' X 4 rfl (i := 0) rfl (by omega) (by omega) dX11_passOn_159 ?_
                refine g_toe (x' := day) rfl ?_
                refine g_iconst X (1) dX11_passOn_160 (by decide) ?_
                refine g_iadd X dX11_passOn_161 ?_
                refine g_iast' X 4 rfl (i := 0) rfl (by omega) (by omega) (ws' := [(mm, .inr (11, [.int le_, .ref mtx, .int po_, .ref mnu, .int fa_, .int rcl_, .int rle_, .ref mrc, .ref mrw, .ref mrl, .int (nI n), .ref mki, .ref mwa, .int (nI m), .ref mle, .ref mno, .ref mtr, .ref mse, .ref mba, .int ba_, .ref mim, .int km_, .int si_, .ref msi, .ref mfo, .int fm_, .ref mor, .ref mbo, .ref mma, .ref mbm, .ref mso])), (mki, .inl (V.2.2.1, 7, .inl k)), (mwa, .inl (V.2.2.1, 7, .inl wb)), (mle, .inl (V.2.2.1, 27, .inl (leF ld te pu))), (sa, .inl (V.2.2.1, 15, .inl (upd (stF day w4 g) 0 (day + 1))))]) rfl dX11_passOn_162 ?_
                refine g_arr 4 (stF (day + 1) w4 g) rfl (stF_u0 _ _ _ _) (ws' := [(mm, .inr (11, [.int le_, .ref mtx, .int po_, .ref mnu, .int fa_, .int rcl_, .int rle_, .ref mrc, .ref mrw, .ref mrl, .int (nI n), .ref mki, .ref mwa, .int (nI m), .ref mle, .ref mno, .ref mtr, .ref mse, .ref mba, .int ba_, .ref mim, .int km_, .int si_, .ref msi, .ref mfo, .int fm_, .ref mor, .ref mbo, .ref mma, .ref mbm, .ref mso])), (mki, .inl (V.2.2.1, 7, .inl k)), (mwa, .inl (V.2.2.1, 7, .inl wb)), (mle, .inl (V.2.2.1, 27, .inl (leF ld te pu))), (sa, .inl (V.2.2.1, 15, .inl (stF (day + 1) w4 g)))]) rfl ?_
                exact g_vret X E dX11_passOn_163 w4 (by have e : c = n := (by omega); subst e; rw [h4, dayF, if_neg hca, h2, show a = c by omega, h1, show m = i by omega]; rfl) rfl
              | succ d122 ih122 =>
                intro c hc w4 h4
                refine g_iload_n X dX11_passOn_122 rfl ?_
                refine g_aload_n X dX11_passOn_123 rfl ?_
                refine g_get X uwX11 0 rfl rfl 10 (by decide) kl_X11_91 rfl rfl gwX11 dX11_passOn_124 ?_
                refine g_icmp_ge X 156 dX11_passOn_127 (by decide) (fun c127_16 => absurd c127_16 (fge (a := c) (b := n) (by omega) (by omega) (by omega))) (fun c127_16 => ?_)
                refine g_aload_n X dX11_passOn_130 rfl ?_
                refine g_iconst X (1) dX11_passOn_131 (by decide) ?_
                refine g_iload_n X dX11_passOn_132 rfl ?_
                refine g_iadd X dX11_passOn_133 ?_
                refine g_toe (x' := nI (1 + c)) (nI_add' rfl rfl) ?_
                refine g_aload_n X dX11_passOn_134 rfl ?_
                refine g_iconst X (1) dX11_passOn_135 (by decide) ?_
                refine g_iload_n X dX11_passOn_136 rfl ?_
                refine g_iadd X dX11_passOn_137 ?_
                refine g_toe (x' := nI (1 + c)) (nI_add' rfl rfl) ?_
                refine g_iald' X 4 rfl (i := (1 + c)) rfl (by omega) (by omega) dX11_passOn_138 ?_
                refine g_toe (x' := w4 c) (stF_w _ _ _ c (by omega)) ?_
                refine g_aload_n X dX11_passOn_139 rfl ?_
                refine g_bipush X (8) dX11_passOn_140 (by decide) ?_
                refine g_iload_n X dX11_passOn_142 rfl ?_
                refine g_iadd X dX11_passOn_143 ?_
                refine g_toe (x' := nI (8 + c)) (nI_add' rfl rfl) ?_
                refine g_iald' X 4 rfl (i := (8 + c)) rfl (by omega) (by omega) dX11_passOn_144 ?_
                refine g_toe (x' := g c) (stF_g _ _ _ c) ?_
                refine g_iadd X dX11_passOn_145 ?_
                refine g_callSi X (c_X11_bound V ((w4 c) + (g c))) mo_X11_bound kl_X11_148 [] [0, 0, 0, 0, 0] rfl (by decide +kernel) rfl rfl (fun _ => Nat.le_of_ble_eq_true rfl) (As := [.int ((w4 c) + (g c))]) (st := [.int (nI (1 + c)), .ref sa]) (cs' := (0, 0)) rfl rfl rfl dX11_passOn_146 (fun r_21 u_17 hp_18 ws_20 hw_19 => ?_)
                obtain rfl : r_21 = clampF ((w4 c) + (g c)) := hp_18
                have hw_19x : ws_20 = [(mm, .inr (11, [.int le_, .ref mtx, .int po_, .ref mnu, .int fa_, .int rcl_, .int rle_, .ref mrc, .ref mrw, .ref mrl, .int (nI n), .ref mki, .ref mwa, .int (nI m), .ref mle, .ref mno, .ref mtr, .ref mse, .ref mba, .int ba_, .ref mim, .int km_, .int si_, .ref msi, .ref mfo, .int fm_, .ref mor, .ref mbo, .ref mma, .ref mbm, .ref mso])), (mki, .inl (V.2.2.1, 7, .inl k)), (mwa, .inl (V.2.2.1, 7, .inl wb)), (mle, .inl (V.2.2.1, 27, .inl (leF ld te pu))), (sa, .inl (V.2.2.1, 15, .inl (stF day w4 g)))] := hw_19.symm
                clear hw_19; subst hw_19x
                refine g_iast' X 4 rfl (i := (1 + c)) rfl (by omega) (by omega) (ws' := [(mm, .inr (11, [.int le_, .ref mtx, .int po_, .ref mnu, .int fa_, .int rcl_, .int rle_, .ref mrc, .ref mrw, .ref mrl, .int (nI n), .ref mki, .ref mwa, .int (nI m), .ref mle, .ref mno, .ref mtr, .ref mse, .ref mba, .int ba_, .ref mim, .int km_, .int si_, .ref msi, .ref mfo, .int fm_, .ref mor, .ref mbo, .ref mma, .ref mbm, .ref mso])), (mki, .inl (V.2.2.1, 7, .inl k)), (mwa, .inl (V.2.2.1, 7, .inl wb)), (mle, .inl (V.2.2.1, 27, .inl (leF ld te pu))), (sa, .inl (V.2.2.1, 15, .inl (upd (stF day w4 g) (1 + c) (clampF ((w4 c) + (g c))))))]) rfl dX11_passOn_149 ?_
                refine g_arr 4 (stF day (upd w4 c (clampF ((w4 c) + (g c)))) g) rfl (stF_uw _ _ _ _ c (by omega)) (ws' := [(mm, .inr (11, [.int le_, .ref mtx, .int po_, .ref mnu, .int fa_, .int rcl_, .int rle_, .ref mrc, .ref mrw, .ref mrl, .int (nI n), .ref mki, .ref mwa, .int (nI m), .ref mle, .ref mno, .ref mtr, .ref mse, .ref mba, .int ba_, .ref mim, .int km_, .int si_, .ref msi, .ref mfo, .int fm_, .ref mor, .ref mbo, .ref mma, .ref mbm, .ref mso])), (mki, .inl (V.2.2.1, 7, .inl k)), (mwa, .inl (V.2.2.1, 7, .inl wb)), (mle, .inl (V.2.2.1, 27, .inl (leF ld te pu))), (sa, .inl (V.2.2.1, 15, .inl (stF day (upd w4 c (clampF ((w4 c) + (g c)))) g)))]) rfl ?_
                refine g_iinc X (v := nI (c + 1)) (L' := [some (.ref mm), some (.ref sa), some (.int carry), some (.int (nI (c + 1))), none]) dX11_passOn_150 rfl (nI_addk (by decide)) (by decide) rfl rfl ?_
                refine g_goto X 122 dX11_passOn_153 (by decide) ?_
                exact ih122 (c + 1) (by omega) (upd w4 c (clampF ((w4 c) + (g c)))) (by rw [gainF, it_s, ← gainF, ← h4])
            exact loop122_14 n 0 (by omega) w2 rfl
          | succ d60 ih60 =>
            intro a ha w2 hB2 h2
            refine g_iload_n X dX11_passOn_60 rfl ?_
            refine g_aload_n X dX11_passOn_61 rfl ?_
            refine g_get X uwX11 0 rfl rfl 10 (by decide) kl_X11_91 rfl rfl gwX11 dX11_passOn_62 ?_
            refine g_icmp_ge X 120 dX11_passOn_65 (by decide) (fun c65_22 => absurd c65_22 (fge (a := a) (b := n) (by omega) (by omega) (by omega))) (fun c65_22 => ?_)
            refine g_iload_n X dX11_passOn_68 rfl ?_
            refine g_if_eq X 120 dX11_passOn_69 (by decide) (fun c69_23 => absurd c69_23 hca) (fun c69_23 => ?_)
            refine g_iload_n X dX11_passOn_72 rfl ?_
            refine g_iconst X (1) dX11_passOn_73 (by decide) ?_
            refine g_iadd X dX11_passOn_74 ?_
            refine g_toe (x' := nI (a + 1)) (nI_add' rfl rfl) ?_
            refine g_istore X (L' := [some (.ref mm), some (.ref sa), some (.int carry), some (.int (nI a)), some (.int (nI (a + 1)))]) dX11_passOn_75 (by decide) rfl rfl ?_
            have loop77_24 : ∀ (d77 b : Nat), b + d77 = n → ∀ (w3 : Nat → Int32) (hlb : a + 1 ≤ b) (hB3 : Bd n w3) (h3 : w3 = itg (a + 1) (fun b w => if hasF (wb a) b = 0 then w else nearF a b w) b w2), G V Z 5 (0, 0) [(mm, .inr (11, [.int le_, .ref mtx, .int po_, .ref mnu, .int fa_, .int rcl_, .int rle_, .ref mrc, .ref mrw, .ref mrl, .int (nI n), .ref mki, .ref mwa, .int (nI m), .ref mle, .ref mno, .ref mtr, .ref mse, .ref mba, .int ba_, .ref mim, .int km_, .int si_, .ref msi, .ref mfo, .int fm_, .ref mor, .ref mbo, .ref mma, .ref mbm, .ref mso])), (mki, .inl (V.2.2.1, 7, .inl k)), (mwa, .inl (V.2.2.1, 7, .inl wb)), (mle, .inl (V.2.2.1, 27, .inl (leF ld te pu))), (sa, .inl (V.2.2.1, 15, .inl (stF day w3 g)))] 77 [some (.ref mm), some (.ref sa), some (.int carry), some (.int (nI a)), some (.int (nI b))] [] := by
              intro d77
              induction d77 with
              | zero =>
                intro b hb w3 hlb hB3 h3
                refine g_iload X dX11_passOn_77 rfl ?_
                refine g_aload_n X dX11_passOn_79 rfl ?_
                refine g_get X uwX11 0 rfl rfl 10 (by decide) kl_X11_91 rfl rfl gwX11 dX11_passOn_80 ?_
                refine g_icmp_ge X 114 dX11_passOn_83 (by decide) (fun c83_25 => ?_) (fun c83_25 => absurd (tge (a := b) (b := n) (by omega) (by omega) (by omega)) c83_25)
                refine g_iinc X (v := nI (a + 1)) (L' := [some (.ref mm), some (.ref sa), some (.int carry), some (.int (nI (a + 1))), some (.int (nI b))]) dX11_passOn_114 rfl (nI_addk (by decide)) (by decide) rfl rfl ?_
                refine g_goto X 60 dX11_passOn_117 (by decide) ?_
                refine g_sub (L' := [some (.ref mm), some (.ref sa), some (.int carry), some (.int (nI (a + 1))), none]) ⟨rfl, ⟨rfl, ⟨rfl, ⟨rfl, trivial⟩⟩⟩⟩ ?_
                exact ih60 (a + 1) (by omega) w3 hB3 (by have e : b = n := (by omega); subst e; rw [h3, h2]; rfl)
              | succ d77 ih77 =>
                intro b hb w3 hlb hB3 h3
                refine g_iload X dX11_passOn_77 rfl ?_
                refine g_aload_n X dX11_passOn_79 rfl ?_
                refine g_get X uwX11 0 rfl rfl 10 (by decide) kl_X11_91 rfl rfl gwX11 dX11_passOn_80 ?_
                refine g_icmp_ge X 114 dX11_passOn_83 (by decide) (fun c83_26 => absurd c83_26 (fge (a := b) (b := n) (by omega) (by omega) (by omega))) (fun c83_26 => ?_)
                refine g_aload_n X dX11_passOn_86 rfl ?_
                refine g_get X uwX11 0 rfl rfl 12 (by decide) kl_X11_28 rfl rfl gwX11 dX11_passOn_87 ?_
                refine g_iload_n X dX11_passOn_90 rfl ?_
                refine g_iald' X 2 rfl (i := a) rfl (by omega) (by omega) dX11_passOn_91 ?_
                refine g_iload X dX11_passOn_92 rfl ?_
                refine g_callSi X (c_X11_has V (wb a) b) mo_X11_has kl_X11_158 [] [0, 0, 0, 0, 0] rfl (by decide +kernel) rfl rfl (fun _ => Nat.le_of_ble_eq_true rfl) (As := [.int (wb a), .int (nI b)]) (st := []) (cs' := (0, 0)) rfl rfl rfl dX11_passOn_94 (fun r_31 u_27 hp_28 ws_30 hw_29 => ?_)
                obtain rfl : r_31 = hasF (wb a) b := hp_28
                have hw_29x : ws_30 = [(mm, .inr (11, [.int le_, .ref mtx, .int po_, .ref mnu, .int fa_, .int rcl_, .int rle_, .ref mrc, .ref mrw, .ref mrl, .int (nI n), .ref mki, .ref mwa, .int (nI m), .ref mle, .ref mno, .ref mtr, .ref mse, .ref mba, .int ba_, .ref mim, .int km_, .int si_, .ref msi, .ref mfo, .int fm_, .ref mor, .ref mbo, .ref mma, .ref mbm, .ref mso])), (mki, .inl (V.2.2.1, 7, .inl k)), (mwa, .inl (V.2.2.1, 7, .inl wb)), (mle, .inl (V.2.2.1, 27, .inl (leF ld te pu))), (sa, .inl (V.2.2.1, 15, .inl (stF day w3 g)))] := hw_29.symm
                clear hw_29; subst hw_29x
                refine g_if_eq X 108 dX11_passOn_97 (by decide) (fun c97_32 => ?_) (fun c97_32 => ?_)
                · refine g_iinc X (v := nI (b + 1)) (L' := [some (.ref mm), some (.ref sa), some (.int carry), some (.int (nI a)), some (.int (nI (b + 1)))]) dX11_passOn_108 rfl (nI_addk (by decide)) (by decide) rfl rfl ?_
                  refine g_goto X 77 dX11_passOn_111 (by decide) ?_
                  exact ih77 (b + 1) (by omega) w3 (by omega) hB3 (by rw [itg_s _ _ hlb, ← h3]; simp [c97_32])
                · refine g_aload_n X dX11_passOn_100 rfl ?_
                  refine g_aload_n X dX11_passOn_101 rfl ?_
                  refine g_iload_n X dX11_passOn_102 rfl ?_
                  refine g_iload X dX11_passOn_103 rfl ?_
                  refine g_callVv X (c_X11_hearOn V mm mtx mnu mrc mrw mrl mki mwa mle mno mtr mse mba mim msi mfo mor mbo mma mbm mso le_ po_ fa_ rcl_ rle_ n (nI m) ba_ km_ si_ fm_ day w3 g sa a b (by omega) (by omega) (by omega) (by omega) hB3) mo_X11_hearOn kl_X11_162 [0, 4] [1, 0, 0, 0, 2] rfl (by decide +kernel) rfl rfl (fun _ => Nat.le_of_ble_eq_true rfl) 0 11 rfl rfl (As := [.ref sa, .int (nI a), .int (nI b)]) (st := []) (cs' := (0, 0)) rfl rfl rfl rfl dX11_passOn_105 (fun nw_33 hp_34 ws_36 hw_35 => ?_)
                  obtain rfl : nw_33 = nearF a b w3 := hp_34
                  have hw_35x : ws_36 = [(mm, .inr (11, [.int le_, .ref mtx, .int po_, .ref mnu, .int fa_, .int rcl_, .int rle_, .ref mrc, .ref mrw, .ref mrl, .int (nI n), .ref mki, .ref mwa, .int (nI m), .ref mle, .ref mno, .ref mtr, .ref mse, .ref mba, .int ba_, .ref mim, .int km_, .int si_, .ref msi, .ref mfo, .int fm_, .ref mor, .ref mbo, .ref mma, .ref mbm, .ref mso])), (mki, .inl (V.2.2.1, 7, .inl k)), (mwa, .inl (V.2.2.1, 7, .inl wb)), (mle, .inl (V.2.2.1, 27, .inl (leF ld te pu))), (sa, .inl (V.2.2.1, 15, .inl (stF day (nearF a b w3) g)))] := hw_35.symm
                  clear hw_35; subst hw_35x
                  refine g_iinc X (v := nI (b + 1)) (L' := [some (.ref mm), some (.ref sa), some (.int carry), some (.int (nI a)), some (.int (nI (b + 1)))]) dX11_passOn_108 rfl (nI_addk (by decide)) (by decide) rfl rfl ?_
                  refine g_goto X 77 dX11_passOn_111 (by decide) ?_
                  exact ih77 (b + 1) (by omega) (nearF a b w3) (by omega) (Bd_near hB3) (by rw [itg_s _ _ hlb, ← h3]; simp [c97_32])
            exact loop77_24 (n - (a + 1)) (a + 1) (by omega) w2 (Nat.le_refl _) hB2 (itg_0 _ _ (Nat.le_refl _)).symm
        exact loop60_12 n 0 (by omega) w1 hB1 rfl
    | succ d2 ih2 =>
      intro i hi w1 hB1 h1
      refine g_iload_n X dX11_passOn_2 rfl ?_
      refine g_aload_n X dX11_passOn_3 rfl ?_
      refine g_get X uwX11 0 rfl rfl 13 (by decide) kl_X11_122 rfl rfl gwX11 dX11_passOn_4 ?_
      refine g_icmp_ge X 58 dX11_passOn_7 (by decide) (fun c7_38 => absurd c7_38 (fge (a := i) (b := m) (by omega) (by omega) (by omega))) (fun c7_38 => ?_)
      refine g_aload_n X dX11_passOn_10 rfl ?_
      refine g_get X uwX11 0 rfl rfl 14 (by decide) kl_X11_31 rfl rfl gwX11 dX11_passOn_11 ?_
      refine g_iconst X (3) dX11_passOn_14 (by decide) ?_
      refine g_iload_n X dX11_passOn_15 rfl ?_
      refine g_imul X dX11_passOn_16 ?_
      refine g_toe (x' := nI (3 * i)) (nI_mul' rfl rfl) ?_
      refine g_iald' X 3 rfl (i := (3 * i)) rfl (by omega) (by omega) dX11_passOn_17 ?_
      refine g_toe (x' := nI (ld i)) (leF_0 _ _ _ i) ?_
      refine g_aload_n X dX11_passOn_18 rfl ?_
      refine g_iconst X (0) dX11_passOn_19 (by decide) ?_
      refine g_iald' X 4 rfl (i := 0) rfl (by omega) (by omega) dX11_passOn_20 ?_
      refine g_toe (x' := day) rfl ?_
      refine g_bipush X (14) dX11_passOn_21 (by decide) ?_
      refine g_rem X dX11_passOn_23 (by decide) ?_
      refine g_icmp_ne X 52 dX11_passOn_24 (by decide) (fun c24_39 => ?_) (fun c24_39 => ?_)
      · refine g_iinc X (v := nI (i + 1)) (L' := [some (.ref mm), some (.ref sa), some (.int carry), some (.int (nI (i + 1))), none]) dX11_passOn_52 rfl (nI_addk (by decide)) (by decide) rfl rfl ?_
        refine g_goto X 2 dX11_passOn_55 (by decide) ?_
        exact ih2 (i + 1) (by omega) w1 hB1 (by rw [toldF, it_s, ← toldF, ← h1]; simp [c24_39])
      · refine g_aload_n X dX11_passOn_27 rfl ?_
        refine g_aload_n X dX11_passOn_28 rfl ?_
        refine g_aload_n X dX11_passOn_29 rfl ?_
        refine g_get X uwX11 0 rfl rfl 14 (by decide) kl_X11_31 rfl rfl gwX11 dX11_passOn_30 ?_
        refine g_iconst X (3) dX11_passOn_33 (by decide) ?_
        refine g_iload_n X dX11_passOn_34 rfl ?_
        refine g_imul X dX11_passOn_35 ?_
        refine g_toe (x' := nI (3 * i)) (nI_mul' rfl rfl) ?_
        refine g_iconst X (1) dX11_passOn_36 (by decide) ?_
        refine g_iadd X dX11_passOn_37 ?_
        refine g_toe (x' := nI (3 * i + 1)) (nI_add' rfl rfl) ?_
        refine g_iald' X 3 rfl (i := (3 * i + 1)) rfl (by omega) (by omega) dX11_passOn_38 ?_
        refine g_toe (x' := nI (te i)) (leF_1 _ _ _ i) ?_
        refine g_aload_n X dX11_passOn_39 rfl ?_
        refine g_get X uwX11 0 rfl rfl 14 (by decide) kl_X11_31 rfl rfl gwX11 dX11_passOn_40 ?_
        refine g_iconst X (3) dX11_passOn_43 (by decide) ?_
        refine g_iload_n X dX11_passOn_44 rfl ?_
        refine g_imul X dX11_passOn_45 ?_
        refine g_toe (x' := nI (3 * i)) (nI_mul' rfl rfl) ?_
        refine g_iconst X (2) dX11_passOn_46 (by decide) ?_
        refine g_iadd X dX11_passOn_47 ?_
        refine g_toe (x' := nI (3 * i + 2)) (nI_add' rfl rfl) ?_
        refine g_iald' X 3 rfl (i := (3 * i + 2)) rfl (by omega) (by omega) dX11_passOn_48 ?_
        refine g_toe (x' := nI (pu i)) (leF_2 _ _ _ i) ?_
        refine g_callVv X (c_X11_teachOn V mm mtx mnu mrc mrw mrl mki mwa mle mno mtr mse mba mim msi mfo mor mbo mma mbm mso le_ po_ fa_ rcl_ rle_ n (nI m) ba_ km_ si_ fm_ k day w1 g sa (te i) (pu i) (by omega) (by have := ht i (by omega); omega) (by have := ht i (by omega); omega) hB1) mo_X11_teachOn kl_X11_154 [0, 1, 4] [1, 2, 0, 0, 3] rfl (by decide +kernel) rfl rfl (fun _ => Nat.le_of_ble_eq_true rfl) 0 11 rfl rfl (As := [.ref sa, .int (nI (te i)), .int (nI (pu i))]) (st := []) (cs' := (0, 0)) rfl rfl rfl rfl dX11_passOn_49 (fun nw_40 hp_41 ws_43 hw_42 => ?_)
        obtain rfl : nw_40 = learnF k day (te i) (pu i) w1 := hp_41
        have hw_42x : ws_43 = [(mm, .inr (11, [.int le_, .ref mtx, .int po_, .ref mnu, .int fa_, .int rcl_, .int rle_, .ref mrc, .ref mrw, .ref mrl, .int (nI n), .ref mki, .ref mwa, .int (nI m), .ref mle, .ref mno, .ref mtr, .ref mse, .ref mba, .int ba_, .ref mim, .int km_, .int si_, .ref msi, .ref mfo, .int fm_, .ref mor, .ref mbo, .ref mma, .ref mbm, .ref mso])), (mki, .inl (V.2.2.1, 7, .inl k)), (mwa, .inl (V.2.2.1, 7, .inl wb)), (mle, .inl (V.2.2.1, 27, .inl (leF ld te pu))), (sa, .inl (V.2.2.1, 15, .inl (stF day (learnF k day (te i) (pu i) w1) g)))] := hw_42.symm
        clear hw_42; subst hw_42x
        refine g_iinc X (v := nI (i + 1)) (L' := [some (.ref mm), some (.ref sa), some (.int carry), some (.int (nI (i + 1))), none]) dX11_passOn_52 rfl (nI_addk (by decide)) (by decide) rfl rfl ?_
        refine g_goto X 2 dX11_passOn_55 (by decide) ?_
        exact ih2 (i + 1) (by omega) (learnF k day (te i) (pu i) w1) (Bd_learn hB1) (by rw [toldF, it_s, ← toldF, ← h1]; simp [c24_39])
  exact loop2 m 0 (by omega) w hB rfl
