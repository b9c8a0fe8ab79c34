set_option maxHeartbeats 4000000 in
set_option maxRecDepth 100000 in
theorem c_X11_rightOf (V : gV) (mm : Nat) (mtx : Nat) (mnu : Nat) (mrc : Nat) (mrw : Nat) (mrl : Nat) (mki : Nat) (mwa : Nat) (mle : Nat) (mno : Nat) (mtr : Nat) (mse : Nat) (mba : Nat) (mim : Nat) (msi : Nat) (mfo : Nat) (mor : Nat) (mbo : Nat) (mma : Nat) (mbm : Nat) (mso : Nat) (le_ : Int32) (po_ : Int32) (fa_ : Int32) (rcl_ : Int32) (rle_ : Int32) (n : Nat) (ls_ : Int32) (ba_ : Int32) (km_ : Int32) (si_ : Int32) (fm_ : Int32) (day : Int32) (w : Nat → Int32) (g : Nat → Int32) (sa : Nat) (hn : n ≤ 7) : Ki V yX11_rightOf cX11_rightOf 4 .int ({ frames := 0, cells := 0, slots := 0, locals := 0 }) [.ref mm, .ref sa] [(mm, .inr (11, [.int le_, .ref mtx, .int po_, .ref mnu, .int fa_, .int rcl_, .int rle_, .ref mrc, .ref mrw, .ref mrl, .int (nI n), .ref mki, .ref mwa, .int ls_, .ref mle, .ref mno, .ref mtr, .ref mse, .ref mba, .int ba_, .ref mim, .int km_, .int si_, .ref msi, .ref mfo, .int fm_, .ref mor, .ref mbo, .ref mma, .ref mbm, .ref mso])), (sa, .inl (V.2.2.1, 15, .inl (stF day w g)))] (fun (r : Int32) (u : Unit) => r = nI (rightF n w)) (fun u => [(mm, .inr (11, [.int le_, .ref mtx, .int po_, .ref mnu, .int fa_, .int rcl_, .int rle_, .ref mrc, .ref mrw, .ref mrl, .int (nI n), .ref mki, .ref mwa, .int ls_, .ref mle, .ref mno, .ref mtr, .ref mse, .ref mba, .int ba_, .ref mim, .int km_, .int si_, .ref msi, .ref mfo, .int fm_, .ref mor, .ref mbo, .ref mma, .ref mbm, .ref mso])), (sa, .inl (V.2.2.1, 15, .inl (stF day w g)))]) := by
  refine Ki.of [some (.ref mm), some (.ref sa), none, none] (by decide) (Nat.le_of_ble_eq_true rfl) rfl rfl ?_
  intro Z X E
  have X : gX V Z RX11 cX11_rightOf 4 ({ frames := 0, cells := 0, slots := 0, locals := 0 }) := X
  refine g_iconst X (0) dX11_rightOf_0 (by decide) ?_
  refine g_istore_n X (L' := [some (.ref mm), some (.ref sa), some (.int 0), none]) dX11_rightOf_1 (by decide) rfl rfl ?_
  refine g_iconst X (0) dX11_rightOf_2 (by decide) ?_
  refine g_istore_n X (L' := [some (.ref mm), some (.ref sa), some (.int 0), some (.int 0)]) dX11_rightOf_3 (by decide) rfl rfl ?_
  have loop4 : ∀ (d4 c : Nat), c + d4 = n → ∀ (o : Nat) (h1 : o = rightF c w), G V Z 4 (0, 0) [(mm, .inr (11, [.int le_, .ref mtx, .int po_, .ref mnu, .int fa_, .int rcl_, .int rle_, .ref mrc, .ref mrw, .ref mrl, .int (nI n), .ref mki, .ref mwa, .int ls_, .ref mle, .ref mno, .ref mtr, .ref mse, .ref mba, .int ba_, .ref mim, .int km_, .int si_, .ref msi, .ref mfo, .int fm_, .ref mor, .ref mbo, .ref mma, .ref mbm, .ref mso])), (sa, .inl (V.2.2.1, 15, .inl (stF day w g)))] 4 [some (.ref mm), some (.ref sa), some (.int (nI o)), some (.int (nI c))] [] := by
    intro d4
    induction d4 with
    | zero =>
      intro c hc o h1
      refine g_iload_n X dX11_rightOf_4 rfl ?_
      refine g_aload_n X dX11_rightOf_5 rfl ?_
      refine g_get X uwX11 0 rfl rfl 10 (by decide) kl_X11_91 rfl rfl gwX11 dX11_rightOf_6 ?_
      refine g_icmp_ge X 34 dX11_rightOf_9 (by decide) (fun c9_1 => ?_) (fun c9_1 => absurd (tge (a := c) (b := n) (by omega) (by omega) (by omega)) c9_1)
      refine g_iload_n X dX11_rightOf_34 rfl ?_
      exact g_iret X E dX11_rightOf_35 () (nI o) (by have e : c = n := (by omega); subst e; rw [h1]) rfl
    | succ d4 ih4 =>
      intro c hc o h1
      refine g_iload_n X dX11_rightOf_4 rfl ?_
      refine g_aload_n X dX11_rightOf_5 rfl ?_
      refine g_get X uwX11 0 rfl rfl 10 (by decide) kl_X11_91 rfl rfl gwX11 dX11_rightOf_6 ?_
      refine g_icmp_ge X 34 dX11_rightOf_9 (by decide) (fun c9_2 => absurd c9_2 (fge (a := c) (b := n) (by omega) (by omega) (by omega))) (fun c9_2 => ?_)
      refine g_iload_n X dX11_rightOf_12 rfl ?_
      refine g_aload_n X dX11_rightOf_13 rfl ?_
      refine g_iconst X (1) dX11_rightOf_14 (by decide) ?_
      refine g_iload_n X dX11_rightOf_15 rfl ?_
      refine g_iadd X dX11_rightOf_16 ?_
      refine g_toe (x' := nI (1 + c)) (nI_add' rfl rfl) ?_
      refine g_iald' X 1 rfl (i := (1 + c)) rfl (by omega) (by omega) dX11_rightOf_17 ?_
      refine g_toe (x' := w c) (stF_w _ _ _ c (by omega)) ?_
      refine g_if_ne X 25 dX11_rightOf_18 (by decide) (fun c18_3 => ?_) (fun c18_3 => ?_)
      · refine g_iconst X (0) dX11_rightOf_25 (by decide) ?_
        refine g_iadd X dX11_rightOf_26 ?_
        refine g_toe (x' := nI (o + 0)) (nI_add' rfl rfl) ?_
        refine g_istore_n X (L' := [some (.ref mm), some (.ref sa), some (.int (nI (o + 0))), some (.int (nI c))]) dX11_rightOf_27 (by decide) rfl rfl ?_
        refine g_iinc X (v := nI (c + 1)) (L' := [some (.ref mm), some (.ref sa), some (.int (nI (o + 0))), some (.int (nI (c + 1)))]) dX11_rightOf_28 rfl (nI_addk (by decide)) (by decide) rfl rfl ?_
        refine g_goto X 4 dX11_rightOf_31 (by decide) ?_
        exact ih4 (c + 1) (by omega) (o + 0) (by rw [rightF, cnt_s, ← rightF, ← h1]; simp [c18_3])
      · refine g_iconst X (1) dX11_rightOf_21 (by decide) ?_
        refine g_goto X 26 dX11_rightOf_22 (by decide) ?_
        refine g_iadd X dX11_rightOf_26 ?_
        refine g_toe (x' := nI (o + 1)) (nI_add' rfl rfl) ?_
        refine g_istore_n X (L' := [some (.ref mm), some (.ref sa), some (.int (nI (o + 1))), some (.int (nI c))]) dX11_rightOf_27 (by decide) rfl rfl ?_
        refine g_iinc X (v := nI (c + 1)) (L' := [some (.ref mm), some (.ref sa), some (.int (nI (o + 1))), some (.int (nI (c + 1)))]) dX11_rightOf_28 rfl (nI_addk (by decide)) (by decide) rfl rfl ?_
        refine g_goto X 4 dX11_rightOf_31 (by decide) ?_
        exact ih4 (c + 1) (by omega) (o + 1) (by rw [rightF, cnt_s, ← rightF, ← h1]; simp [c18_3])
  exact loop4 n 0 (by omega) 0 rfl

set_option maxHeartbeats 4000000 in
set_option maxRecDepth 100000 in
theorem c_X11_bits (V : gV) (v : Int32)  : Ki V yX11_bits cX11_bits 3 .int ({ frames := 0, cells := 0, slots := 0, locals := 0 }) [.int v] [] (fun (r : Int32) (u : Unit) => r = bitsM v) (fun u => []) := by
  refine Ki.of [some (.int v), none, none] (by decide) (Nat.le_of_ble_eq_true rfl) rfl rfl ?_
  intro Z X E
  have X : gX V Z RX11 cX11_bits 3 ({ frames := 0, cells := 0, slots := 0, locals := 0 }) := X
  refine g_iconst X (0) dX11_bits_0 (by decide) ?_
  refine g_istore_n X (L' := [some (.int v), some (.int 0), none]) dX11_bits_1 (by decide) rfl rfl ?_
  refine g_iconst X (0) dX11_bits_2 (by decide) ?_
  refine g_istore_n X (L' := [some (.int v), some (.int 0), some (.int 0)]) dX11_bits_3 (by decide) rfl rfl ?_
  have loop4 : ∀ (d4 k : Nat), k + d4 = 7 → ∀ (b : Int32) (h1 : b = it (fun k n => n + ((v >>> (nI k &&& 31)) &&& 1)) k 0), G V Z 3 (0, 0) [] 4 [some (.int v), some (.int b), some (.int (nI k))] [] := by
    intro d4
    induction d4 with
    | zero =>
      intro k hk b h1
      refine g_iload_n X dX11_bits_4 rfl ?_
      refine g_bipush X (7) dX11_bits_5 (by decide) ?_
      refine g_icmp_ge X 24 dX11_bits_7 (by decide) (fun c7_1 => ?_) (fun c7_1 => absurd (tge (a := k) (b := 7) (by omega) (by omega) (by omega)) c7_1)
      refine g_iload_n X dX11_bits_24 rfl ?_
      exact g_iret X E dX11_bits_25 () b (by have e : k = 7 := (by omega); subst e; rw [h1]; rfl) rfl
    | succ d4 ih4 =>
      intro k hk b h1
      refine g_iload_n X dX11_bits_4 rfl ?_
      refine g_bipush X (7) dX11_bits_5 (by decide) ?_
      refine g_icmp_ge X 24 dX11_bits_7 (by decide) (fun c7_2 => absurd c7_2 (fge (a := k) (b := 7) (by omega) (by omega) (by omega))) (fun c7_2 => ?_)
      refine g_iload_n X dX11_bits_10 rfl ?_
      refine g_iload_n X dX11_bits_11 rfl ?_
      refine g_iload_n X dX11_bits_12 rfl ?_
      refine g_ishr X dX11_bits_13 ?_
      refine g_iconst X (1) dX11_bits_14 (by decide) ?_
      refine g_iand X dX11_bits_15 ?_
      refine g_iadd X dX11_bits_16 ?_
      refine g_istore_n X (L' := [some (.int v), some (.int (b + ((v >>> ((nI k) &&& 31)) &&& 1))), some (.int (nI k))]) dX11_bits_17 (by decide) rfl rfl ?_
      refine g_iinc X (v := nI (k + 1)) (L' := [some (.int v), some (.int (b + ((v >>> ((nI k) &&& 31)) &&& 1))), some (.int (nI (k + 1)))]) dX11_bits_18 rfl (nI_addk (by decide)) (by decide) rfl rfl ?_
      refine g_goto X 4 dX11_bits_21 (by decide) ?_
      exact ih4 (k + 1) (by omega) (b + ((v >>> ((nI k) &&& 31)) &&& 1)) (by rw [it_s, ← h1])
  exact loop4 7 0 (by omega) 0 rfl

set_option maxHeartbeats 4000000 in
set_option maxRecDepth 100000 in
theorem w_write_bad (V : gV) (mm : Nat) (mtx : Nat) (mnu : Nat) (mrc : Nat) (mrw : Nat) (mrl : Nat) (mki : Nat) (mwa : Nat) (mle : Nat) (mno : Nat) (mtr : Nat) (mse : Nat) (mba : Nat) (mim : Nat) (msi : Nat) (mfo : Nat) (mor : Nat) (mbo : Nat) (mma : Nat) (mbm : Nat) (mso : Nat) (x : Nat) (po_ : Int32) (fa_ : Int32) (rcl_ : Int32) (rle_ : Int32) (cl_ : Int32) (ls_ : Int32) (ba_ : Int32) (km_ : Int32) (si_ : Int32) (fm_ : Int32) (tf : Nat → Nat) (c : Int32) (hbad : ¬ (¬ c < 32 ∧ c ≤ 126)) : Ki V yX11_write cX11_write 2 .int ({ frames := 1, cells := 0, slots := 0, locals := 22 }) [.ref mm, .int c] [(mm, .inr (11, [.int (nI x), .ref mtx, .int po_, .ref mnu, .int fa_, .int rcl_, .int rle_, .ref mrc, .ref mrw, .ref mrl, .int cl_, .ref mki, .ref mwa, .int ls_, .ref mle, .ref mno, .ref mtr, .ref mse, .ref mba, .int ba_, .ref mim, .int km_, .int si_, .ref msi, .ref mfo, .int fm_, .ref mor, .ref mbo, .ref mma, .ref mbm, .ref mso])), (mtx, .inl (V.2.2.1, 200, .inl (nIf tf)))] (fun (r : Int32) (u : Unit) => r = -1) (fun u => [(mm, .inr (11, [.int (nI x), .ref mtx, .int po_, .ref mnu, .int fa_, .int rcl_, .int rle_, .ref mrc, .ref mrw, .ref mrl, .int cl_, .ref mki, .ref mwa, .int ls_, .ref mle, .ref mno, .ref mtr, .ref mse, .ref mba, .int ba_, .ref mim, .int km_, .int si_, .ref msi, .ref mfo, .int fm_, .ref mor, .ref mbo, .ref mma, .ref mbm, .ref mso])), (mtx, .inl (V.2.2.1, 200, .inl (nIf tf)))]) := by
  refine Ki.of [some (.ref mm), some (.int c)] (by decide) (Nat.le_of_ble_eq_true rfl) rfl rfl ?_
  intro Z X E
  have X : gX V Z RX11 cX11_write 2 ({ frames := 1, cells := 0, slots := 0, locals := 22 }) := X
  refine g_iload_n X dX11_write_0 rfl ?_
  refine g_bipush X (32) dX11_write_1 (by decide) ?_
  refine g_bipush X (126) dX11_write_3 (by decide) ?_
  refine g_callSi X (c_X11_in V c 32 126) mo_X11_in kl_X11_94 [] [0, 0] rfl (by decide +kernel) rfl rfl (fun _ => Nat.le_of_ble_eq_true rfl) (As := [.int c, .int 32, .int 126]) (st := []) (cs' := (0, 0)) rfl rfl rfl dX11_write_5 (fun r_5 u_1 hp_2 ws_4 hw_3 => ?_)
  obtain rfl : r_5 = inF c 32 126 := hp_2
  have hw_3x : ws_4 = [(mm, .inr (11, [.int (nI x), .ref mtx, .int po_, .ref mnu, .int fa_, .int rcl_, .int rle_, .ref mrc, .ref mrw, .ref mrl, .int cl_, .ref mki, .ref mwa, .int ls_, .ref mle, .ref mno, .ref mtr, .ref mse, .ref mba, .int ba_, .ref mim, .int km_, .int si_, .ref msi, .ref mfo, .int fm_, .ref mor, .ref mbo, .ref mma, .ref mbm, .ref mso])), (mtx, .inl (V.2.2.1, 200, .inl (nIf tf)))] := hw_3.symm
  clear hw_3; subst hw_3x
  refine g_if_ne X 13 dX11_write_8 (by decide) (fun c8_6 => absurd (inF_0 (fun z => hbad ⟨z.1, Int32.not_lt.mp z.2⟩)) c8_6) (fun c8_6 => ?_)
  refine g_iconst X (-1) dX11_write_11 (by decide) ?_
  exact g_iret X E dX11_write_12 () (-1) (by first | rfl | (simp [c8_6]; done)) rfl

set_option maxHeartbeats 4000000 in
set_option maxRecDepth 100000 in
theorem w_write_full (V : gV) (mm : Nat) (mtx : Nat) (mnu : Nat) (mrc : Nat) (mrw : Nat) (mrl : Nat) (mki : Nat) (mwa : Nat) (mle : Nat) (mno : Nat) (mtr : Nat) (mse : Nat) (mba : Nat) (mim : Nat) (msi : Nat) (mfo : Nat) (mor : Nat) (mbo : Nat) (mma : Nat) (mbm : Nat) (mso : Nat) (x : Nat) (po_ : Int32) (fa_ : Int32) (rcl_ : Int32) (rle_ : Int32) (cl_ : Int32) (ls_ : Int32) (ba_ : Int32) (km_ : Int32) (si_ : Int32) (fm_ : Int32) (tf : Nat → Nat) (c : Int32) (hx : x = 200) (h1 : ¬ c < 32) (h2 : c ≤ 126) : Ki V yX11_write cX11_write 2 .int ({ frames := 1, cells := 0, slots := 0, locals := 22 }) [.ref mm, .int c] [(mm, .inr (11, [.int (nI x), .ref mtx, .int po_, .ref mnu, .int fa_, .int rcl_, .int rle_, .ref mrc, .ref mrw, .ref mrl, .int cl_, .ref mki, .ref mwa, .int ls_, .ref mle, .ref mno, .ref mtr, .ref mse, .ref mba, .int ba_, .ref mim, .int km_, .int si_, .ref msi, .ref mfo, .int fm_, .ref mor, .ref mbo, .ref mma, .ref mbm, .ref mso])), (mtx, .inl (V.2.2.1, 200, .inl (nIf tf)))] (fun (r : Int32) (u : Unit) => r = -3) (fun u => [(mm, .inr (11, [.int (nI x), .ref mtx, .int po_, .ref mnu, .int fa_, .int rcl_, .int rle_, .ref mrc, .ref mrw, .ref mrl, .int cl_, .ref mki, .ref mwa, .int ls_, .ref mle, .ref mno, .ref mtr, .ref mse, .ref mba, .int ba_, .ref mim, .int km_, .int si_, .ref msi, .ref mfo, .int fm_, .ref mor, .ref mbo, .ref mma, .ref mbm, .ref mso])), (mtx, .inl (V.2.2.1, 200, .inl (nIf tf)))]) := by
  refine Ki.of [some (.ref mm), some (.int c)] (by decide) (Nat.le_of_ble_eq_true rfl) rfl rfl ?_
  intro Z X E
  have X : gX V Z RX11 cX11_write 2 ({ frames := 1, cells := 0, slots := 0, locals := 22 }) := X
  refine g_iload_n X dX11_write_0 rfl ?_
  refine g_bipush X (32) dX11_write_1 (by decide) ?_
  refine g_bipush X (126) dX11_write_3 (by decide) ?_
  refine g_callSi X (c_X11_in V c 32 126) mo_X11_in kl_X11_94 [] [0, 0] rfl (by decide +kernel) rfl rfl (fun _ => Nat.le_of_ble_eq_true rfl) (As := [.int c, .int 32, .int 126]) (st := []) (cs' := (0, 0)) rfl rfl rfl dX11_write_5 (fun r_5 u_1 hp_2 ws_4 hw_3 => ?_)
  obtain rfl : r_5 = inF c 32 126 := hp_2
  have hw_3x : ws_4 = [(mm, .inr (11, [.int (nI x), .ref mtx, .int po_, .ref mnu, .int fa_, .int rcl_, .int rle_, .ref mrc, .ref mrw, .ref mrl, .int cl_, .ref mki, .ref mwa, .int ls_, .ref mle, .ref mno, .ref mtr, .ref mse, .ref mba, .int ba_, .ref mim, .int km_, .int si_, .ref msi, .ref mfo, .int fm_, .ref mor, .ref mbo, .ref mma, .ref mbm, .ref mso])), (mtx, .inl (V.2.2.1, 200, .inl (nIf tf)))] := hw_3.symm
  clear hw_3; subst hw_3x
  refine g_if_ne X 13 dX11_write_8 (by decide) (fun c8_6 => ?_) (fun c8_6 => absurd c8_6 (by rw [inF_1 h1 (Int32.not_lt.mpr h2)]; decide))
  refine g_aload_n X dX11_write_13 rfl ?_
  refine g_get X uwX11 0 rfl rfl 0 (by decide) kl_X11_98 rfl rfl gwX11 dX11_write_14 ?_
  refine g_sipush X (200) dX11_write_17 (by decide) ?_
  refine g_icmp_ne X 26 dX11_write_20 (by decide) (fun c20_7 => absurd (teq (a := x) (b := 200) (by omega) (by omega) (by omega)) c20_7) (fun c20_7 => ?_)
  refine g_bipush X (-3) dX11_write_23 (by decide) ?_
  exact g_iret X E dX11_write_25 () (-3) (by first | rfl | (simp [c8_6, c20_7]; done)) rfl

set_option maxHeartbeats 4000000 in
set_option maxRecDepth 100000 in
theorem w_write_ok (V : gV) (mm : Nat) (mtx : Nat) (mnu : Nat) (mrc : Nat) (mrw : Nat) (mrl : Nat) (mki : Nat) (mwa : Nat) (mle : Nat) (mno : Nat) (mtr : Nat) (mse : Nat) (mba : Nat) (mim : Nat) (msi : Nat) (mfo : Nat) (mor : Nat) (mbo : Nat) (mma : Nat) (mbm : Nat) (mso : Nat) (x : Nat) (po_ : Int32) (fa_ : Int32) (rcl_ : Int32) (rle_ : Int32) (cl_ : Int32) (ls_ : Int32) (ba_ : Int32) (km_ : Int32) (si_ : Int32) (fm_ : Int32) (tf : Nat → Nat) (l : Nat) (hx : x < 200) (h1 : 32 ≤ l) (h2 : l ≤ 126) : Ki V yX11_write cX11_write 2 .int ({ frames := 1, cells := 0, slots := 0, locals := 22 }) [.ref mm, .int (nI l)] [(mm, .inr (11, [.int (nI x), .ref mtx, .int po_, .ref mnu, .int fa_, .int rcl_, .int rle_, .ref mrc, .ref mrw, .ref mrl, .int cl_, .ref mki, .ref mwa, .int ls_, .ref mle, .ref mno, .ref mtr, .ref mse, .ref mba, .int ba_, .ref mim, .int km_, .int si_, .ref msi, .ref mfo, .int fm_, .ref mor, .ref mbo, .ref mma, .ref mbm, .ref mso])), (mtx, .inl (V.2.2.1, 200, .inl (nIf tf)))] (fun (r : Int32) (u : Unit) => r = nI (x + 1)) (fun u => [(mm, .inr (11, [.int (nI (x + 1)), .ref mtx, .int po_, .ref mnu, .int fa_, .int rcl_, .int rle_, .ref mrc, .ref mrw, .ref mrl, .int cl_, .ref mki, .ref mwa, .int ls_, .ref mle, .ref mno, .ref mtr, .ref mse, .ref mba, .int ba_, .ref mim, .int km_, .int si_, .ref msi, .ref mfo, .int fm_, .ref mor, .ref mbo, .ref mma, .ref mbm, .ref mso])), (mtx, .inl (V.2.2.1, 200, .inl (nIf (updN tf x l))))]) := by
  refine Ki.of [some (.ref mm), some (.int (nI l))] (by decide) (Nat.le_of_ble_eq_true rfl) rfl rfl ?_
  intro Z X E
  have X : gX V Z RX11 cX11_write 2 ({ frames := 1, cells := 0, slots := 0, locals := 22 }) := X
  refine g_iload_n X dX11_write_0 rfl ?_
  refine g_bipush X (32) dX11_write_1 (by decide) ?_
  refine g_bipush X (126) dX11_write_3 (by decide) ?_
  refine g_callSi X (c_X11_in V (nI l) 32 126) mo_X11_in kl_X11_94 [] [0, 0] rfl (by decide +kernel) rfl rfl (fun _ => Nat.le_of_ble_eq_true rfl) (As := [.int (nI l), .int 32, .int 126]) (st := []) (cs' := (0, 0)) rfl rfl rfl dX11_write_5 (fun r_5 u_1 hp_2 ws_4 hw_3 => ?_)
  obtain rfl : r_5 = inF (nI l) 32 126 := hp_2
  have hw_3x : ws_4 = [(mm, .inr (11, [.int (nI x), .ref mtx, .int po_, .ref mnu, .int fa_, .int rcl_, .int rle_, .ref mrc, .ref mrw, .ref mrl, .int cl_, .ref mki, .ref mwa, .int ls_, .ref mle, .ref mno, .ref mtr, .ref mse, .ref mba, .int ba_, .ref mim, .int km_, .int si_, .ref msi, .ref mfo, .int fm_, .ref mor, .ref mbo, .ref mma, .ref mbm, .ref mso])), (mtx, .inl (V.2.2.1, 200, .inl (nIf tf)))] := hw_3.symm
  clear hw_3; subst hw_3x
  refine g_if_ne X 13 dX11_write_8 (by decide) (fun c8_6 => ?_) (fun c8_6 => absurd c8_6 (inF_ne (v := l) (lo := 32) (hi := 126) (by omega) (by omega)))
  refine g_aload_n X dX11_write_13 rfl ?_
  refine g_get X uwX11 0 rfl rfl 0 (by decide) kl_X11_98 rfl rfl gwX11 dX11_write_14 ?_
  refine g_sipush X (200) dX11_write_17 (by decide) ?_
  refine g_icmp_ne X 26 dX11_write_20 (by decide) (fun c20_7 => ?_) (fun c20_7 => absurd c20_7 (tne (a := x) (b := 200) (by omega) (by omega) (by omega)))
  refine g_aload_n X dX11_write_26 rfl ?_
  refine g_get X uwX11 0 rfl rfl 1 (by decide) kl_X11_7 rfl rfl gwX11 dX11_write_27 ?_
  refine g_aload_n X dX11_write_30 rfl ?_
  refine g_get X uwX11 0 rfl rfl 0 (by decide) kl_X11_98 rfl rfl gwX11 dX11_write_31 ?_
  refine g_iload_n X dX11_write_34 rfl ?_
  refine g_iast' X 1 rfl (i := x) rfl (by omega) (by omega) (ws' := [(mm, .inr (11, [.int (nI x), .ref mtx, .int po_, .ref mnu, .int fa_, .int rcl_, .int rle_, .ref mrc, .ref mrw, .ref mrl, .int cl_, .ref mki, .ref mwa, .int ls_, .ref mle, .ref mno, .ref mtr, .ref mse, .ref mba, .int ba_, .ref mim, .int km_, .int si_, .ref msi, .ref mfo, .int fm_, .ref mor, .ref mbo, .ref mma, .ref mbm, .ref mso])), (mtx, .inl (V.2.2.1, 200, .inl (upd (nIf tf) x (nI l))))]) rfl dX11_write_35 ?_
  refine g_arr 1 (nIf (updN tf x l)) rfl (fun j _ => updN_eq tf x l j) (ws' := [(mm, .inr (11, [.int (nI x), .ref mtx, .int po_, .ref mnu, .int fa_, .int rcl_, .int rle_, .ref mrc, .ref mrw, .ref mrl, .int cl_, .ref mki, .ref mwa, .int ls_, .ref mle, .ref mno, .ref mtr, .ref mse, .ref mba, .int ba_, .ref mim, .int km_, .int si_, .ref msi, .ref mfo, .int fm_, .ref mor, .ref mbo, .ref mma, .ref mbm, .ref mso])), (mtx, .inl (V.2.2.1, 200, .inl (nIf (updN tf x l))))]) rfl ?_
  refine g_aload_n X dX11_write_36 rfl ?_
  refine g_dup X dX11_write_37 rfl ?_
  refine g_get X uwX11 0 rfl rfl 0 (by decide) kl_X11_98 rfl rfl gwX11 dX11_write_38 ?_
  refine g_iconst X (1) dX11_write_41 (by decide) ?_
  refine g_iadd X dX11_write_42 ?_
  refine g_toe (x' := nI (x + 1)) (nI_add' rfl rfl) ?_
  refine g_put X uwX11 tyX11 tyX11_ok nmX11 0 rfl rfl 0 (by decide) kl_X11_98 rfl rfl rfl rfl (Nat.le_of_ble_eq_true rfl) gwX11 (ws' := [(mm, .inr (11, [.int (nI (x + 1)), .ref mtx, .int po_, .ref mnu, .int fa_, .int rcl_, .int rle_, .ref mrc, .ref mrw, .ref mrl, .int cl_, .ref mki, .ref mwa, .int ls_, .ref mle, .ref mno, .ref mtr, .ref mse, .ref mba, .int ba_, .ref mim, .int km_, .int si_, .ref msi, .ref mfo, .int fm_, .ref mor, .ref mbo, .ref mma, .ref mbm, .ref mso])), (mtx, .inl (V.2.2.1, 200, .inl (nIf (updN tf x l))))]) rfl dX11_write_43 ?_
  refine g_aload_n X dX11_write_46 rfl ?_
  refine g_get X uwX11 0 rfl rfl 0 (by decide) kl_X11_98 rfl rfl gwX11 dX11_write_47 ?_
  exact g_iret X E dX11_write_50 () (nI (x + 1)) (by first | rfl | (simp [c8_6, c20_7]; done)) rfl

set_option maxHeartbeats 4000000 in
set_option maxRecDepth 100000 in
theorem w_wipe (V : gV) (mm : Nat) (mtx : Nat) (mnu : Nat) (mrc : Nat) (mrw : Nat) (mrl : Nat) (mki : Nat) (mwa : Nat) (mle : Nat) (mno : Nat) (mtr : Nat) (mse : Nat) (mba : Nat) (mim : Nat) (msi : Nat) (mfo : Nat) (mor : Nat) (mbo : Nat) (mma : Nat) (mbm : Nat) (mso : Nat) (x : Nat) (po_ : Int32) (fa_ : Int32) (rcl_ : Int32) (rle_ : Int32) (cl_ : Int32) (ls_ : Int32) (ba_ : Int32) (km_ : Int32) (si_ : Int32) (fm_ : Int32)  : Ki V yX11_wipe cX11_wipe 2 .int ({ frames := 0, cells := 0, slots := 0, locals := 0 }) [.ref mm] [(mm, .inr (11, [.int (nI x), .ref mtx, .int po_, .ref mnu, .int fa_, .int rcl_, .int rle_, .ref mrc, .ref mrw, .ref mrl, .int cl_, .ref mki, .ref mwa, .int ls_, .ref mle, .ref mno, .ref mtr, .ref mse, .ref mba, .int ba_, .ref mim, .int km_, .int si_, .ref msi, .ref mfo, .int fm_, .ref mor, .ref mbo, .ref mma, .ref mbm, .ref mso]))] (fun (r : Int32) (u : Unit) => r = nI x) (fun u => [(mm, .inr (11, [.int (nI 0), .ref mtx, .int po_, .ref mnu, .int fa_, .int rcl_, .int rle_, .ref mrc, .ref mrw, .ref mrl, .int cl_, .ref mki, .ref mwa, .int ls_, .ref mle, .ref mno, .ref mtr, .ref mse, .ref mba, .int ba_, .ref mim, .int km_, .int si_, .ref msi, .ref mfo, .int fm_, .ref mor, .ref mbo, .ref mma, .ref mbm, .ref mso]))]) := by
  refine Ki.of [some (.ref mm), none] (by decide) (Nat.le_of_ble_eq_true rfl) rfl rfl ?_
  intro Z X E
  have X : gX V Z RX11 cX11_wipe 2 ({ frames := 0, cells := 0, slots := 0, locals := 0 }) := X
  refine g_aload_n X dX11_wipe_0 rfl ?_
  refine g_get X uwX11 0 rfl rfl 0 (by decide) kl_X11_98 rfl rfl gwX11 dX11_wipe_1 ?_
  refine g_istore_n X (L' := [some (.ref mm), some (.int (nI x))]) dX11_wipe_4 (by decide) rfl rfl ?_
  refine g_aload_n X dX11_wipe_5 rfl ?_
  refine g_iconst X (0) dX11_wipe_6 (by decide) ?_
  refine g_put X uwX11 tyX11 tyX11_ok nmX11 0 rfl rfl 0 (by decide) kl_X11_98 rfl rfl rfl rfl (Nat.le_of_ble_eq_true rfl) gwX11 (ws' := [(mm, .inr (11, [.int 0, .ref mtx, .int po_, .ref mnu, .int fa_, .int rcl_, .int rle_, .ref mrc, .ref mrw, .ref mrl, .int cl_, .ref mki, .ref mwa, .int ls_, .ref mle, .ref mno, .ref mtr, .ref mse, .ref mba, .int ba_, .ref mim, .int km_, .int si_, .ref msi, .ref mfo, .int fm_, .ref mor, .ref mbo, .ref mma, .ref mbm, .ref mso]))]) rfl dX11_wipe_7 ?_
  refine g_iload_n X dX11_wipe_10 rfl ?_
  exact g_iret X E dX11_wipe_11 () (nI x) (by first | rfl | (simp []; done)) rfl

set_option maxHeartbeats 4000000 in
set_option maxRecDepth 100000 in
theorem w_forget (V : gV) (mm : Nat) (mtx : Nat) (mnu : Nat) (mrc : Nat) (mrw : Nat) (mrl : Nat) (mki : Nat) (mwa : Nat) (mle : Nat) (mno : Nat) (mtr : Nat) (mse : Nat) (mba : Nat) (mim : Nat) (msi : Nat) (mfo : Nat) (mor : Nat) (mbo : Nat) (mma : Nat) (mbm : Nat) (mso : Nat) (le_ : Int32) (po_ : Int32) (fa_ : Int32) (rcl_ : Int32) (rle_ : Int32) (cl_ : Int32) (ls_ : Int32) (ba_ : Int32) (km_ : Int32) (z : Nat) (fm_ : Int32)  : Ki V yX11_forget cX11_forget 2 .int ({ frames := 0, cells := 0, slots := 0, locals := 0 }) [.ref mm] [(mm, .inr (11, [.int le_, .ref mtx, .int po_, .ref mnu, .int fa_, .int rcl_, .int rle_, .ref mrc, .ref mrw, .ref mrl, .int cl_, .ref mki, .ref mwa, .int ls_, .ref mle, .ref mno, .ref mtr, .ref mse, .ref mba, .int ba_, .ref mim, .int km_, .int (nI z), .ref msi, .ref mfo, .int fm_, .ref mor, .ref mbo, .ref mma, .ref mbm, .ref mso]))] (fun (r : Int32) (u : Unit) => r = nI z) (fun u => [(mm, .inr (11, [.int le_, .ref mtx, .int po_, .ref mnu, .int fa_, .int rcl_, .int rle_, .ref mrc, .ref mrw, .ref mrl, .int cl_, .ref mki, .ref mwa, .int ls_, .ref mle, .ref mno, .ref mtr, .ref mse, .ref mba, .int ba_, .ref mim, .int km_, .int (nI 0), .ref msi, .ref mfo, .int fm_, .ref mor, .ref mbo, .ref mma, .ref mbm, .ref mso]))]) := by
  refine Ki.of [some (.ref mm), none] (by decide) (Nat.le_of_ble_eq_true rfl) rfl rfl ?_
  intro Z X E
  have X : gX V Z RX11 cX11_forget 2 ({ frames := 0, cells := 0, slots := 0, locals := 0 }) := X
  refine g_aload_n X dX11_forget_0 rfl ?_
  refine g_get X uwX11 0 rfl rfl 22 (by decide) kl_X11_131 rfl rfl gwX11 dX11_forget_1 ?_
  refine g_istore_n X (L' := [some (.ref mm), some (.int (nI z))]) dX11_forget_4 (by decide) rfl rfl ?_
  refine g_aload_n X dX11_forget_5 rfl ?_
  refine g_iconst X (0) dX11_forget_6 (by decide) ?_
  refine g_put X uwX11 tyX11 tyX11_ok nmX11 0 rfl rfl 22 (by decide) kl_X11_131 rfl rfl rfl rfl (Nat.le_of_ble_eq_true rfl) gwX11 (ws' := [(mm, .inr (11, [.int le_, .ref mtx, .int po_, .ref mnu, .int fa_, .int rcl_, .int rle_, .ref mrc, .ref mrw, .ref mrl, .int cl_, .ref mki, .ref mwa, .int ls_, .ref mle, .ref mno, .ref mtr, .ref mse, .ref mba, .int ba_, .ref mim, .int km_, .int 0, .ref msi, .ref mfo, .int fm_, .ref mor, .ref mbo, .ref mma, .ref mbm, .ref mso]))]) rfl dX11_forget_7 ?_
  refine g_iload_n X dX11_forget_10 rfl ?_
  exact g_iret X E dX11_forget_11 () (nI z) (by first | rfl | (simp []; done)) rfl

set_option maxHeartbeats 4000000 in
set_option maxRecDepth 100000 in
theorem w_clock_bad1 (V : gV) (mm : Nat) (mtx : Nat) (mnu : Nat) (mrc : Nat) (mrw : Nat) (mrl : Nat) (mki : Nat) (mwa : Nat) (mle : Nat) (mno : Nat) (mtr : Nat) (mse : Nat) (mba : Nat) (mim : Nat) (msi : Nat) (mfo : Nat) (mor : Nat) (mbo : Nat) (mma : Nat) (mbm : Nat) (mso : Nat) (le_ : Int32) (po_ : Int32) (fa_ : Int32) (rcl_ : Int32) (rle_ : Int32) (n : Nat) (ls_ : Int32) (ba_ : Int32) (km_ : Int32) (si_ : Int32) (fm_ : Int32) (c : Int32) (v : Int32) (hn : n ≤ 7) (h1n : 1 ≤ n) (hbad : ¬ okC n c) : Ki V yX11_clock cX11_clock 3 .int ({ frames := 2, cells := 0, slots := 0, locals := 43 }) [.ref mm, .int c, .int v] [(mm, .inr (11, [.int le_, .ref mtx, .int po_, .ref mnu, .int fa_, .int rcl_, .int rle_, .ref mrc, .ref mrw, .ref mrl, .int (nI n), .ref mki, .ref mwa, .int ls_, .ref mle, .ref mno, .ref mtr, .ref mse, .ref mba, .int ba_, .ref mim, .int km_, .int si_, .ref msi, .ref mfo, .int fm_, .ref mor, .ref mbo, .ref mma, .ref mbm, .ref mso]))] (fun (r : Int32) (u : Unit) => r = -1) (fun u => [(mm, .inr (11, [.int le_, .ref mtx, .int po_, .ref mnu, .int fa_, .int rcl_, .int rle_, .ref mrc, .ref mrw, .ref mrl, .int (nI n), .ref mki, .ref mwa, .int ls_, .ref mle, .ref mno, .ref mtr, .ref mse, .ref mba, .int ba_, .ref mim, .int km_, .int si_, .ref msi, .ref mfo, .int fm_, .ref mor, .ref mbo, .ref mma, .ref mbm, .ref mso]))]) := by
  refine Ki.of [some (.ref mm), some (.int c), some (.int v)] (by decide) (Nat.le_of_ble_eq_true rfl) rfl rfl ?_
  intro Z X E
  have X : gX V Z RX11 cX11_clock 3 ({ frames := 2, cells := 0, slots := 0, locals := 43 }) := X
  refine g_aload_n X dX11_clock_0 rfl ?_
  refine g_iload_n X dX11_clock_1 rfl ?_
  refine g_callVi X (c_X11_isClock V mm mtx mnu mrc mrw mrl mki mwa mle mno mtr mse mba mim msi mfo mor mbo mma mbm mso le_ po_ fa_ rcl_ rle_ n ls_ ba_ km_ si_ fm_ c (by omega) (by omega)) mo_X11_isClock kl_X11_134 [0] [1] rfl (by decide +kernel) rfl rfl (fun _ => Nat.le_of_ble_eq_true rfl) 0 11 rfl rfl (As := [.int c]) (st := []) (cs' := (0, 0)) rfl rfl rfl rfl dX11_clock_2 (fun r_5 u_1 hp_2 ws_4 hw_3 => ?_)
  obtain rfl : r_5 = (if okC n c then 1 else 0) := hp_2
  have hw_3x : ws_4 = [(mm, .inr (11, [.int le_, .ref mtx, .int po_, .ref mnu, .int fa_, .int rcl_, .int rle_, .ref mrc, .ref mrw, .ref mrl, .int (nI n), .ref mki, .ref mwa, .int ls_, .ref mle, .ref mno, .ref mtr, .ref mse, .ref mba, .int ba_, .ref mim, .int km_, .int si_, .ref msi, .ref mfo, .int fm_, .ref mor, .ref mbo, .ref mma, .ref mbm, .ref mso]))] := hw_3.symm
  clear hw_3; subst hw_3x
  refine g_if_eq X 17 dX11_clock_5 (by decide) (fun c5_6 => ?_) (fun c5_6 => absurd (by rw [if_neg hbad]) c5_6)
  refine g_iconst X (-1) dX11_clock_17 (by decide) ?_
  exact g_iret X E dX11_clock_18 () (-1) (by first | rfl | (simp [c5_6]; done)) rfl

set_option maxHeartbeats 4000000 in
set_option maxRecDepth 100000 in
theorem w_clock_bad2 (V : gV) (mm : Nat) (mtx : Nat) (mnu : Nat) (mrc : Nat) (mrw : Nat) (mrl : Nat) (mki : Nat) (mwa : Nat) (mle : Nat) (mno : Nat) (mtr : Nat) (mse : Nat) (mba : Nat) (mim : Nat) (msi : Nat) (mfo : Nat) (mor : Nat) (mbo : Nat) (mma : Nat) (mbm : Nat) (mso : Nat) (le_ : Int32) (po_ : Int32) (fa_ : Int32) (rcl_ : Int32) (rle_ : Int32) (n : Nat) (ls_ : Int32) (ba_ : Int32) (km_ : Int32) (si_ : Int32) (fm_ : Int32) (c : Nat) (v : Int32) (hn : n ≤ 7) (h1n : 1 ≤ n) (hc : c < n) (hbad : v.toInt < 0 ∨ 3 < v.toInt) : Ki V yX11_clock cX11_clock 3 .int ({ frames := 2, cells := 0, slots := 0, locals := 43 }) [.ref mm, .int (nI c), .int v] [(mm, .inr (11, [.int le_, .ref mtx, .int po_, .ref mnu, .int fa_, .int rcl_, .int rle_, .ref mrc, .ref mrw, .ref mrl, .int (nI n), .ref mki, .ref mwa, .int ls_, .ref mle, .ref mno, .ref mtr, .ref mse, .ref mba, .int ba_, .ref mim, .int km_, .int si_, .ref msi, .ref mfo, .int fm_, .ref mor, .ref mbo, .ref mma, .ref mbm, .ref mso]))] (fun (r : Int32) (u : Unit) => r = -1) (fun u => [(mm, .inr (11, [.int le_, .ref mtx, .int po_, .ref mnu, .int fa_, .int rcl_, .int rle_, .ref mrc, .ref mrw, .ref mrl, .int (nI n), .ref mki, .ref mwa, .int ls_, .ref mle, .ref mno, .ref mtr, .ref mse, .ref mba, .int ba_, .ref mim, .int km_, .int si_, .ref msi, .ref mfo, .int fm_, .ref mor, .ref mbo, .ref mma, .ref mbm, .ref mso]))]) := by
  refine Ki.of [some (.ref mm), some (.int (nI c)), some (.int v)] (by decide) (Nat.le_of_ble_eq_true rfl) rfl rfl ?_
  intro Z X E
  have X : gX V Z RX11 cX11_clock 3 ({ frames := 2, cells := 0, slots := 0, locals := 43 }) := X
  refine g_aload_n X dX11_clock_0 rfl ?_
  refine g_iload_n X dX11_clock_1 rfl ?_
  refine g_callVi X (c_X11_isClock V mm mtx mnu mrc mrw mrl mki mwa mle mno mtr mse mba mim msi mfo mor mbo mma mbm mso le_ po_ fa_ rcl_ rle_ n ls_ ba_ km_ si_ fm_ (nI c) (by omega) (by omega)) mo_X11_isClock kl_X11_134 [0] [1] rfl (by decide +kernel) rfl rfl (fun _ => Nat.le_of_ble_eq_true rfl) 0 11 rfl rfl (As := [.int (nI c)]) (st := []) (cs' := (0, 0)) rfl rfl rfl rfl dX11_clock_2 (fun r_5 u_1 hp_2 ws_4 hw_3 => ?_)
  obtain rfl : r_5 = (if okC n (nI c) then 1 else 0) := hp_2
  have hw_3x : ws_4 = [(mm, .inr (11, [.int le_, .ref mtx, .int po_, .ref mnu, .int fa_, .int rcl_, .int rle_, .ref mrc, .ref mrw, .ref mrl, .int (nI n), .ref mki, .ref mwa, .int ls_, .ref mle, .ref mno, .ref mtr, .ref mse, .ref mba, .int ba_, .ref mim, .int km_, .int si_, .ref msi, .ref mfo, .int fm_, .ref mor, .ref mbo, .ref mma, .ref mbm, .ref mso]))] := hw_3.symm
  clear hw_3; subst hw_3x
  refine g_if_eq X 17 dX11_clock_5 (by decide) (fun c5_6 => absurd c5_6 (by rw [if_pos (okC_nI hc (by omega))]; decide)) (fun c5_6 => ?_)
  refine g_iload_n X dX11_clock_8 rfl ?_
  refine g_iconst X (0) dX11_clock_9 (by decide) ?_
  refine g_iconst X (3) dX11_clock_10 (by decide) ?_
  refine g_callSi X (c_X11_in V v 0 3) mo_X11_in kl_X11_94 [] [0] rfl (by decide +kernel) rfl rfl (fun _ => Nat.le_of_ble_eq_true rfl) (As := [.int v, .int 0, .int 3]) (st := []) (cs' := (0, 0)) rfl rfl rfl dX11_clock_11 (fun r_11 u_7 hp_8 ws_10 hw_9 => ?_)
  obtain rfl : r_11 = inF v 0 3 := hp_8
  have hw_9x : ws_10 = [(mm, .inr (11, [.int le_, .ref mtx, .int po_, .ref mnu, .int fa_, .int rcl_, .int rle_, .ref mrc, .ref mrw, .ref mrl, .int (nI n), .ref mki, .ref mwa, .int ls_, .ref mle, .ref mno, .ref mtr, .ref mse, .ref mba, .int ba_, .ref mim, .int km_, .int si_, .ref msi, .ref mfo, .int fm_, .ref mor, .ref mbo, .ref mma, .ref mbm, .ref mso]))] := hw_9.symm
  clear hw_9; subst hw_9x
  refine g_if_ne X 19 dX11_clock_14 (by decide) (fun c14_12 => absurd (inF_bad hbad) c14_12) (fun c14_12 => ?_)
  refine g_iconst X (-1) dX11_clock_17 (by decide) ?_
  exact g_iret X E dX11_clock_18 () (-1) (by first | rfl | (simp [c5_6, c14_12]; done)) rfl

set_option maxHeartbeats 4000000 in
set_option maxRecDepth 100000 in
theorem w_clock_0 (V : gV) (mm : Nat) (mtx : Nat) (mnu : Nat) (mrc : Nat) (mrw : Nat) (mrl : Nat) (mki : Nat) (mwa : Nat) (mle : Nat) (mno : Nat) (mtr : Nat) (mse : Nat) (mba : Nat) (mim : Nat) (msi : Nat) (mfo : Nat) (mor : Nat) (mbo : Nat) (mma : Nat) (mbm : Nat) (mso : Nat) (le_ : Int32) (po_ : Int32) (fa_ : Int32) (rcl_ : Int32) (rle_ : Int32) (n : Nat) (ls_ : Int32) (ba_ : Int32) (km_ : Int32) (si_ : Int32) (fm_ : Int32) (k : Nat → Int32) (c : Nat) (hn : n ≤ 7) (h1n : 1 ≤ n) (hc : c < n) : Ki V yX11_clock cX11_clock 3 .int ({ frames := 2, cells := 0, slots := 0, locals := 43 }) [.ref mm, .int (nI c), .int 0] [(mm, .inr (11, [.int le_, .ref mtx, .int po_, .ref mnu, .int fa_, .int rcl_, .int rle_, .ref mrc, .ref mrw, .ref mrl, .int (nI n), .ref mki, .ref mwa, .int ls_, .ref mle, .ref mno, .ref mtr, .ref mse, .ref mba, .int ba_, .ref mim, .int km_, .int si_, .ref msi, .ref mfo, .int fm_, .ref mor, .ref mbo, .ref mma, .ref mbm, .ref mso])), (mki, .inl (V.2.2.1, 7, .inl k))] (fun (r : Int32) (u : Unit) => r = k c) (fun u => [(mm, .inr (11, [.int le_, .ref mtx, .int po_, .ref mnu, .int fa_, .int rcl_, .int rle_, .ref mrc, .ref mrw, .ref mrl, .int (nI n), .ref mki, .ref mwa, .int ls_, .ref mle, .ref mno, .ref mtr, .ref mse, .ref mba, .int ba_, .ref mim, .int km_, .int si_, .ref msi, .ref mfo, .int fm_, .ref mor, .ref mbo, .ref mma, .ref mbm, .ref mso])), (mki, .inl (V.2.2.1, 7, .inl k))]) := by
  refine Ki.of [some (.ref mm), some (.int (nI c)), some (.int 0)] (by decide) (Nat.le_of_ble_eq_true rfl) rfl rfl ?_
  intro Z X E
  have X : gX V Z RX11 cX11_clock 3 ({ frames := 2, cells := 0, slots := 0, locals := 43 }) := X
  refine g_aload_n X dX11_clock_0 rfl ?_
  refine g_iload_n X dX11_clock_1 rfl ?_
  refine g_callVi X (c_X11_isClock V mm mtx mnu mrc mrw mrl mki mwa mle mno mtr mse mba mim msi mfo mor mbo mma mbm mso le_ po_ fa_ rcl_ rle_ n ls_ ba_ km_ si_ fm_ (nI c) (by omega) (by omega)) mo_X11_isClock kl_X11_134 [0] [1, 0] rfl (by decide +kernel) rfl rfl (fun _ => Nat.le_of_ble_eq_true rfl) 0 11 rfl rfl (As := [.int (nI c)]) (st := []) (cs' := (0, 0)) rfl rfl rfl rfl dX11_clock_2 (fun r_5 u_1 hp_2 ws_4 hw_3 => ?_)
  obtain rfl : r_5 = (if okC n (nI c) then 1 else 0) := hp_2
  have hw_3x : ws_4 = [(mm, .inr (11, [.int le_, .ref mtx, .int po_, .ref mnu, .int fa_, .int rcl_, .int rle_, .ref mrc, .ref mrw, .ref mrl, .int (nI n), .ref mki, .ref mwa, .int ls_, .ref mle, .ref mno, .ref mtr, .ref mse, .ref mba, .int ba_, .ref mim, .int km_, .int si_, .ref msi, .ref mfo, .int fm_, .ref mor, .ref mbo, .ref mma, .ref mbm, .ref mso])), (mki, .inl (V.2.2.1, 7, .inl k))] := hw_3.symm
  clear hw_3; subst hw_3x
  refine g_if_eq X 17 dX11_clock_5 (by decide) (fun c5_6 => absurd c5_6 (by rw [if_pos (okC_nI hc (by omega))]; decide)) (fun c5_6 => ?_)
  refine g_iload_n X dX11_clock_8 rfl ?_
  refine g_iconst X (0) dX11_clock_9 (by decide) ?_
  refine g_iconst X (3) dX11_clock_10 (by decide) ?_
  refine g_callSi X (c_X11_in V 0 0 3) mo_X11_in kl_X11_94 [] [0, 0] rfl (by decide +kernel) rfl rfl (fun _ => Nat.le_of_ble_eq_true rfl) (As := [.int 0, .int 0, .int 3]) (st := []) (cs' := (0, 0)) rfl rfl rfl dX11_clock_11 (fun r_11 u_7 hp_8 ws_10 hw_9 => ?_)
  obtain rfl : r_11 = inF 0 0 3 := hp_8
  have hw_9x : ws_10 = [(mm, .inr (11, [.int le_, .ref mtx, .int po_, .ref mnu, .int fa_, .int rcl_, .int rle_, .ref mrc, .ref mrw, .ref mrl, .int (nI n), .ref mki, .ref mwa, .int ls_, .ref mle, .ref mno, .ref mtr, .ref mse, .ref mba, .int ba_, .ref mim, .int km_, .int si_, .ref msi, .ref mfo, .int fm_, .ref mor, .ref mbo, .ref mma, .ref mbm, .ref mso])), (mki, .inl (V.2.2.1, 7, .inl k))] := hw_9.symm
  clear hw_9; subst hw_9x
  refine g_if_ne X 19 dX11_clock_14 (by decide) (fun c14_12 => ?_) (fun c14_12 => absurd c14_12 (by decide))
  refine g_iload_n X dX11_clock_19 rfl ?_
  refine g_if_ne X 32 dX11_clock_20 (by decide) (fun c20_13 => absurd (by decide) c20_13) (fun c20_13 => ?_)
  refine g_aload_n X dX11_clock_23 rfl ?_
  refine g_get X uwX11 0 rfl rfl 11 (by decide) kl_X11_25 rfl rfl gwX11 dX11_clock_24 ?_
  refine g_iload_n X dX11_clock_27 rfl ?_
  refine g_iald' X 1 rfl (i := c) rfl (by omega) (by omega) dX11_clock_28 ?_
  refine g_goto X 81 dX11_clock_29 (by decide) ?_
  exact g_iret X E dX11_clock_81 () (k c) (by first | rfl | (simp [c5_6, c14_12, c20_13]; done)) rfl

set_option maxHeartbeats 4000000 in
set_option maxRecDepth 100000 in
theorem w_clock_1 (V : gV) (mm : Nat) (mtx : Nat) (mnu : Nat) (mrc : Nat) (mrw : Nat) (mrl : Nat) (mki : Nat) (mwa : Nat) (mle : Nat) (mno : Nat) (mtr : Nat) (mse : Nat) (mba : Nat) (mim : Nat) (msi : Nat) (mfo : Nat) (mor : Nat) (mbo : Nat) (mma : Nat) (mbm : Nat) (mso : Nat) (le_ : Int32) (po_ : Int32) (fa_ : Int32) (rcl_ : Int32) (rle_ : Int32) (n : Nat) (ls_ : Int32) (ba_ : Int32) (km_ : Int32) (si_ : Int32) (fm_ : Int32) (day : Int32) (w : Nat → Int32) (g : Nat → Int32) (c : Nat) (hn : n ≤ 7) (h1n : 1 ≤ n) (hc : c < n) : Ki V yX11_clock cX11_clock 3 .int ({ frames := 2, cells := 0, slots := 0, locals := 43 }) [.ref mm, .int (nI c), .int 1] [(mm, .inr (11, [.int le_, .ref mtx, .int po_, .ref mnu, .int fa_, .int rcl_, .int rle_, .ref mrc, .ref mrw, .ref mrl, .int (nI n), .ref mki, .ref mwa, .int ls_, .ref mle, .ref mno, .ref mtr, .ref mse, .ref mba, .int ba_, .ref mim, .int km_, .int si_, .ref msi, .ref mfo, .int fm_, .ref mor, .ref mbo, .ref mma, .ref mbm, .ref mso])), (mno, .inl (V.2.2.1, 15, .inl (stF day w g)))] (fun (r : Int32) (u : Unit) => r = w c + 600) (fun u => [(mm, .inr (11, [.int le_, .ref mtx, .int po_, .ref mnu, .int fa_, .int rcl_, .int rle_, .ref mrc, .ref mrw, .ref mrl, .int (nI n), .ref mki, .ref mwa, .int ls_, .ref mle, .ref mno, .ref mtr, .ref mse, .ref mba, .int ba_, .ref mim, .int km_, .int si_, .ref msi, .ref mfo, .int fm_, .ref mor, .ref mbo, .ref mma, .ref mbm, .ref mso])), (mno, .inl (V.2.2.1, 15, .inl (stF day w g)))]) := by
  refine Ki.of [some (.ref mm), some (.int (nI c)), some (.int 1)] (by decide) (Nat.le_of_ble_eq_true rfl) rfl rfl ?_
  intro Z X E
  have X : gX V Z RX11 cX11_clock 3 ({ frames := 2, cells := 0, slots := 0, locals := 43 }) := X
  refine g_aload_n X dX11_clock_0 rfl ?_
  refine g_iload_n X dX11_clock_1 rfl ?_
  refine g_callVi X (c_X11_isClock V mm mtx mnu mrc mrw mrl mki mwa mle mno mtr mse mba mim msi mfo mor mbo mma mbm mso le_ po_ fa_ rcl_ rle_ n ls_ ba_ km_ si_ fm_ (nI c) (by omega) (by omega)) mo_X11_isClock kl_X11_134 [0] [1, 0] rfl (by decide +kernel) rfl rfl (fun _ => Nat.le_of_ble_eq_true rfl) 0 11 rfl rfl (As := [.int (nI c)]) (st := []) (cs' := (0, 0)) rfl rfl rfl rfl dX11_clock_2 (fun r_5 u_1 hp_2 ws_4 hw_3 => ?_)
  obtain rfl : r_5 = (if okC n (nI c) then 1 else 0) := hp_2
  have hw_3x : ws_4 = [(mm, .inr (11, [.int le_, .ref mtx, .int po_, .ref mnu, .int fa_, .int rcl_, .int rle_, .ref mrc, .ref mrw, .ref mrl, .int (nI n), .ref mki, .ref mwa, .int ls_, .ref mle, .ref mno, .ref mtr, .ref mse, .ref mba, .int ba_, .ref mim, .int km_, .int si_, .ref msi, .ref mfo, .int fm_, .ref mor, .ref mbo, .ref mma, .ref mbm, .ref mso])), (mno, .inl (V.2.2.1, 15, .inl (stF day w g)))] := hw_3.symm
  clear hw_3; subst hw_3x
  refine g_if_eq X 17 dX11_clock_5 (by decide) (fun c5_6 => absurd c5_6 (by rw [if_pos (okC_nI hc (by omega))]; decide)) (fun c5_6 => ?_)
  refine g_iload_n X dX11_clock_8 rfl ?_
  refine g_iconst X (0) dX11_clock_9 (by decide) ?_
  refine g_iconst X (3) dX11_clock_10 (by decide) ?_
  refine g_callSi X (c_X11_in V 1 0 3) mo_X11_in kl_X11_94 [] [0, 0] rfl (by decide +kernel) rfl rfl (fun _ => Nat.le_of_ble_eq_true rfl) (As := [.int 1, .int 0, .int 3]) (st := []) (cs' := (0, 0)) rfl rfl rfl dX11_clock_11 (fun r_11 u_7 hp_8 ws_10 hw_9 => ?_)
  obtain rfl : r_11 = inF 1 0 3 := hp_8
  have hw_9x : ws_10 = [(mm, .inr (11, [.int le_, .ref mtx, .int po_, .ref mnu, .int fa_, .int rcl_, .int rle_, .ref mrc, .ref mrw, .ref mrl, .int (nI n), .ref mki, .ref mwa, .int ls_, .ref mle, .ref mno, .ref mtr, .ref mse, .ref mba, .int ba_, .ref mim, .int km_, .int si_, .ref msi, .ref mfo, .int fm_, .ref mor, .ref mbo, .ref mma, .ref mbm, .ref mso])), (mno, .inl (V.2.2.1, 15, .inl (stF day w g)))] := hw_9.symm
  clear hw_9; subst hw_9x
  refine g_if_ne X 19 dX11_clock_14 (by decide) (fun c14_12 => ?_) (fun c14_12 => absurd c14_12 (by decide))
  refine g_iload_n X dX11_clock_19 rfl ?_
  refine g_if_ne X 32 dX11_clock_20 (by decide) (fun c20_13 => ?_) (fun c20_13 => absurd c20_13 (by decide))
  refine g_iload_n X dX11_clock_32 rfl ?_
  refine g_iconst X (1) dX11_clock_33 (by decide) ?_
  refine g_icmp_ne X 52 dX11_clock_34 (by decide) (fun c34_14 => absurd (by decide) c34_14) (fun c34_14 => ?_)
  refine g_aload_n X dX11_clock_37 rfl ?_
  refine g_get X uwX11 0 rfl rfl 15 (by decide) kl_X11_34 rfl rfl gwX11 dX11_clock_38 ?_
  refine g_iconst X (1) dX11_clock_41 (by decide) ?_
  refine g_iload_n X dX11_clock_42 rfl ?_
  refine g_iadd X dX11_clock_43 ?_
  refine g_toe (x' := nI (1 + c)) (nI_add' rfl rfl) ?_
  refine g_iald' X 1 rfl (i := (1 + c)) rfl (by omega) (by omega) dX11_clock_44 ?_
  refine g_toe (x' := w c) (stF_w _ _ _ c (by omega)) ?_
  refine g_sipush X (600) dX11_clock_45 (by decide) ?_
  refine g_iadd X dX11_clock_48 ?_
  refine g_goto X 81 dX11_clock_49 (by decide) ?_
  exact g_iret X E dX11_clock_81 () ((w c) + 600) (by first | rfl | (simp [c5_6, c14_12, c20_13, c34_14]; done)) rfl

set_option maxHeartbeats 4000000 in
set_option maxRecDepth 100000 in
theorem w_clock_2 (V : gV) (mm : Nat) (mtx : Nat) (mnu : Nat) (mrc : Nat) (mrw : Nat) (mrl : Nat) (mki : Nat) (mwa : Nat) (mle : Nat) (mno : Nat) (mtr : Nat) (mse : Nat) (mba : Nat) (mim : Nat) (msi : Nat) (mfo : Nat) (mor : Nat) (mbo : Nat) (mma : Nat) (mbm : Nat) (mso : Nat) (le_ : Int32) (po_ : Int32) (fa_ : Int32) (rcl_ : Int32) (rle_ : Int32) (n : Nat) (ls_ : Int32) (ba_ : Int32) (km_ : Int32) (si_ : Int32) (fm_ : Int32) (day : Int32) (w : Nat → Int32) (g : Nat → Int32) (c : Nat) (hn : n ≤ 7) (h1n : 1 ≤ n) (hc : c < n) : Ki V yX11_clock cX11_clock 3 .int ({ frames := 2, cells := 0, slots := 0, locals := 43 }) [.ref mm, .int (nI c), .int 2] [(mm, .inr (11, [.int le_, .ref mtx, .int po_, .ref mnu, .int fa_, .int rcl_, .int rle_, .ref mrc, .ref mrw, .ref mrl, .int (nI n), .ref mki, .ref mwa, .int ls_, .ref mle, .ref mno, .ref mtr, .ref mse, .ref mba, .int ba_, .ref mim, .int km_, .int si_, .ref msi, .ref mfo, .int fm_, .ref mor, .ref mbo, .ref mma, .ref mbm, .ref mso])), (mno, .inl (V.2.2.1, 15, .inl (stF day w g)))] (fun (r : Int32) (u : Unit) => r = g c + 10) (fun u => [(mm, .inr (11, [.int le_, .ref mtx, .int po_, .ref mnu, .int fa_, .int rcl_, .int rle_, .ref mrc, .ref mrw, .ref mrl, .int (nI n), .ref mki, .ref mwa, .int ls_, .ref mle, .ref mno, .ref mtr, .ref mse, .ref mba, .int ba_, .ref mim, .int km_, .int si_, .ref msi, .ref mfo, .int fm_, .ref mor, .ref mbo, .ref mma, .ref mbm, .ref mso])), (mno, .inl (V.2.2.1, 15, .inl (stF day w g)))]) := by
  refine Ki.of [some (.ref mm), some (.int (nI c)), some (.int 2)] (by decide) (Nat.le_of_ble_eq_true rfl) rfl rfl ?_
  intro Z X E
  have X : gX V Z RX11 cX11_clock 3 ({ frames := 2, cells := 0, slots := 0, locals := 43 }) := X
  refine g_aload_n X dX11_clock_0 rfl ?_
  refine g_iload_n X dX11_clock_1 rfl ?_
  refine g_callVi X (c_X11_isClock V mm mtx mnu mrc mrw mrl mki mwa mle mno mtr mse mba mim msi mfo mor mbo mma mbm mso le_ po_ fa_ rcl_ rle_ n ls_ ba_ km_ si_ fm_ (nI c) (by omega) (by omega)) mo_X11_isClock kl_X11_134 [0] [1, 0] rfl (by decide +kernel) rfl rfl (fun _ => Nat.le_of_ble_eq_true rfl) 0 11 rfl rfl (As := [.int (nI c)]) (st := []) (cs' := (0, 0)) rfl rfl rfl rfl dX11_clock_2 (fun r_5 u_1 hp_2 ws_4 hw_3 => ?_)
  obtain rfl : r_5 = (if okC n (nI c) then 1 else 0) := hp_2
  have hw_3x : ws_4 = [(mm, .inr (11, [.int le_, .ref mtx, .int po_, .ref mnu, .int fa_, .int rcl_, .int rle_, .ref mrc, .ref mrw, .ref mrl, .int (nI n), .ref mki, .ref mwa, .int ls_, .ref mle, .ref mno, .ref mtr, .ref mse, .ref mba, .int ba_, .ref mim, .int km_, .int si_, .ref msi, .ref mfo, .int fm_, .ref mor, .ref mbo, .ref mma, .ref mbm, .ref mso])), (mno, .inl (V.2.2.1, 15, .inl (stF day w g)))] := hw_3.symm
  clear hw_3; subst hw_3x
  refine g_if_eq X 17 dX11_clock_5 (by decide) (fun c5_6 => absurd c5_6 (by rw [if_pos (okC_nI hc (by omega))]; decide)) (fun c5_6 => ?_)
  refine g_iload_n X dX11_clock_8 rfl ?_
  refine g_iconst X (0) dX11_clock_9 (by decide) ?_
  refine g_iconst X (3) dX11_clock_10 (by decide) ?_
  refine g_callSi X (c_X11_in V 2 0 3) mo_X11_in kl_X11_94 [] [0, 0] rfl (by decide +kernel) rfl rfl (fun _ => Nat.le_of_ble_eq_true rfl) (As := [.int 2, .int 0, .int 3]) (st := []) (cs' := (0, 0)) rfl rfl rfl dX11_clock_11 (fun r_11 u_7 hp_8 ws_10 hw_9 => ?_)
  obtain rfl : r_11 = inF 2 0 3 := hp_8
  have hw_9x : ws_10 = [(mm, .inr (11, [.int le_, .ref mtx, .int po_, .ref mnu, .int fa_, .int rcl_, .int rle_, .ref mrc, .ref mrw, .ref mrl, .int (nI n), .ref mki, .ref mwa, .int ls_, .ref mle, .ref mno, .ref mtr, .ref mse, .ref mba, .int ba_, .ref mim, .int km_, .int si_, .ref msi, .ref mfo, .int fm_, .ref mor, .ref mbo, .ref mma, .ref mbm, .ref mso])), (mno, .inl (V.2.2.1, 15, .inl (stF day w g)))] := hw_9.symm
  clear hw_9; subst hw_9x
  refine g_if_ne X 19 dX11_clock_14 (by decide) (fun c14_12 => ?_) (fun c14_12 => absurd c14_12 (by decide))
  refine g_iload_n X dX11_clock_19 rfl ?_
  refine g_if_ne X 32 dX11_clock_20 (by decide) (fun c20_13 => ?_) (fun c20_13 => absurd c20_13 (by decide))
  refine g_iload_n X dX11_clock_32 rfl ?_
  refine g_iconst X (1) dX11_clock_33 (by decide) ?_
  refine g_icmp_ne X 52 dX11_clock_34 (by decide) (fun c34_14 => ?_) (fun c34_14 => absurd c34_14 (by decide))
  refine g_iload_n X dX11_clock_52 rfl ?_
  refine g_iconst X (2) dX11_clock_53 (by decide) ?_
  refine g_icmp_ne X 72 dX11_clock_54 (by decide) (fun c54_15 => absurd (by decide) c54_15) (fun c54_15 => ?_)
  refine g_aload_n X dX11_clock_57 rfl ?_
  refine g_get X uwX11 0 rfl rfl 15 (by decide) kl_X11_34 rfl rfl gwX11 dX11_clock_58 ?_
  refine g_bipush X (8) dX11_clock_61 (by decide) ?_
  refine g_iload_n X dX11_clock_63 rfl ?_
  refine g_iadd X dX11_clock_64 ?_
  refine g_toe (x' := nI (8 + c)) (nI_add' rfl rfl) ?_
  refine g_iald' X 1 rfl (i := (8 + c)) rfl (by omega) (by omega) dX11_clock_65 ?_
  refine g_toe (x' := g c) (stF_g _ _ _ c) ?_
  refine g_bipush X (10) dX11_clock_66 (by decide) ?_
  refine g_iadd X dX11_clock_68 ?_
  refine g_goto X 81 dX11_clock_69 (by decide) ?_
  exact g_iret X E dX11_clock_81 () ((g c) + 10) (by first | rfl | (simp [c5_6, c14_12, c20_13, c34_14, c54_15]; done)) rfl

set_option maxHeartbeats 4000000 in
set_option maxRecDepth 100000 in
theorem w_clock_3 (V : gV) (mm : Nat) (mtx : Nat) (mnu : Nat) (mrc : Nat) (mrw : Nat) (mrl : Nat) (mki : Nat) (mwa : Nat) (mle : Nat) (mno : Nat) (mtr : Nat) (mse : Nat) (mba : Nat) (mim : Nat) (msi : Nat) (mfo : Nat) (mor : Nat) (mbo : Nat) (mma : Nat) (mbm : Nat) (mso : Nat) (le_ : Int32) (po_ : Int32) (fa_ : Int32) (rcl_ : Int32) (rle_ : Int32) (n : Nat) (ls_ : Int32) (ba_ : Int32) (km_ : Int32) (si_ : Int32) (fm_ : Int32) (wb : Nat → Int32) (c : Nat) (hn : n ≤ 7) (h1n : 1 ≤ n) (hc : c < n) : Ki V yX11_clock cX11_clock 3 .int ({ frames := 2, cells := 0, slots := 0, locals := 43 }) [.ref mm, .int (nI c), .int 3] [(mm, .inr (11, [.int le_, .ref mtx, .int po_, .ref mnu, .int fa_, .int rcl_, .int rle_, .ref mrc, .ref mrw, .ref mrl, .int (nI n), .ref mki, .ref mwa, .int ls_, .ref mle, .ref mno, .ref mtr, .ref mse, .ref mba, .int ba_, .ref mim, .int km_, .int si_, .ref msi, .ref mfo, .int fm_, .ref mor, .ref mbo, .ref mma, .ref mbm, .ref mso])), (mwa, .inl (V.2.2.1, 7, .inl wb))] (fun (r : Int32) (u : Unit) => r = bitsM (wb c)) (fun u => [(mm, .inr (11, [.int le_, .ref mtx, .int po_, .ref mnu, .int fa_, .int rcl_, .int rle_, .ref mrc, .ref mrw, .ref mrl, .int (nI n), .ref mki, .ref mwa, .int ls_, .ref mle, .ref mno, .ref mtr, .ref mse, .ref mba, .int ba_, .ref mim, .int km_, .int si_, .ref msi, .ref mfo, .int fm_, .ref mor, .ref mbo, .ref mma, .ref mbm, .ref mso])), (mwa, .inl (V.2.2.1, 7, .inl wb))]) := by
  refine Ki.of [some (.ref mm), some (.int (nI c)), some (.int 3)] (by decide) (Nat.le_of_ble_eq_true rfl) rfl rfl ?_
  intro Z X E
  have X : gX V Z RX11 cX11_clock 3 ({ frames := 2, cells := 0, slots := 0, locals := 43 }) := X
  refine g_aload_n X dX11_clock_0 rfl ?_
  refine g_iload_n X dX11_clock_1 rfl ?_
  refine g_callVi X (c_X11_isClock V mm mtx mnu mrc mrw mrl mki mwa mle mno mtr mse mba mim msi mfo mor mbo mma mbm mso le_ po_ fa_ rcl_ rle_ n ls_ ba_ km_ si_ fm_ (nI c) (by omega) (by omega)) mo_X11_isClock kl_X11_134 [0] [1, 0] rfl (by decide +kernel) rfl rfl (fun _ => Nat.le_of_ble_eq_true rfl) 0 11 rfl rfl (As := [.int (nI c)]) (st := []) (cs' := (0, 0)) rfl rfl rfl rfl dX11_clock_2 (fun r_5 u_1 hp_2 ws_4 hw_3 => ?_)
  obtain rfl : r_5 = (if okC n (nI c) then 1 else 0) := hp_2
  have hw_3x : ws_4 = [(mm, .inr (11, [.int le_, .ref mtx, .int po_, .ref mnu, .int fa_, .int rcl_, .int rle_, .ref mrc, .ref mrw, .ref mrl, .int (nI n), .ref mki, .ref mwa, .int ls_, .ref mle, .ref mno, .ref mtr, .ref mse, .ref mba, .int ba_, .ref mim, .int km_, .int si_, .ref msi, .ref mfo, .int fm_, .ref mor, .ref mbo, .ref mma, .ref mbm, .ref mso])), (mwa, .inl (V.2.2.1, 7, .inl wb))] := hw_3.symm
  clear hw_3; subst hw_3x
  refine g_if_eq X 17 dX11_clock_5 (by decide) (fun c5_6 => absurd c5_6 (by rw [if_pos (okC_nI hc (by omega))]; decide)) (fun c5_6 => ?_)
  refine g_iload_n X dX11_clock_8 rfl ?_
  refine g_iconst X (0) dX11_clock_9 (by decide) ?_
  refine g_iconst X (3) dX11_clock_10 (by decide) ?_
  refine g_callSi X (c_X11_in V 3 0 3) mo_X11_in kl_X11_94 [] [0, 0] rfl (by decide +kernel) rfl rfl (fun _ => Nat.le_of_ble_eq_true rfl) (As := [.int 3, .int 0, .int 3]) (st := []) (cs' := (0, 0)) rfl rfl rfl dX11_clock_11 (fun r_11 u_7 hp_8 ws_10 hw_9 => ?_)
  obtain rfl : r_11 = inF 3 0 3 := hp_8
  have hw_9x : ws_10 = [(mm, .inr (11, [.int le_, .ref mtx, .int po_, .ref mnu, .int fa_, .int rcl_, .int rle_, .ref mrc, .ref mrw, .ref mrl, .int (nI n), .ref mki, .ref mwa, .int ls_, .ref mle, .ref mno, .ref mtr, .ref mse, .ref mba, .int ba_, .ref mim, .int km_, .int si_, .ref msi, .ref mfo, .int fm_, .ref mor, .ref mbo, .ref mma, .ref mbm, .ref mso])), (mwa, .inl (V.2.2.1, 7, .inl wb))] := hw_9.symm
  clear hw_9; subst hw_9x
  refine g_if_ne X 19 dX11_clock_14 (by decide) (fun c14_12 => ?_) (fun c14_12 => absurd c14_12 (by decide))
  refine g_iload_n X dX11_clock_19 rfl ?_
  refine g_if_ne X 32 dX11_clock_20 (by decide) (fun c20_13 => ?_) (fun c20_13 => absurd c20_13 (by decide))
  refine g_iload_n X dX11_clock_32 rfl ?_
  refine g_iconst X (1) dX11_clock_33 (by decide) ?_
  refine g_icmp_ne X 52 dX11_clock_34 (by decide) (fun c34_14 => ?_) (fun c34_14 => absurd c34_14 (by decide))
  refine g_iload_n X dX11_clock_52 rfl ?_
  refine g_iconst X (2) dX11_clock_53 (by decide) ?_
  refine g_icmp_ne X 72 dX11_clock_54 (by decide) (fun c54_15 => ?_) (fun c54_15 => absurd c54_15 (by decide))
  refine g_aload_n X dX11_clock_72 rfl ?_
  refine g_get X uwX11 0 rfl rfl 12 (by decide) kl_X11_28 rfl rfl gwX11 dX11_clock_73 ?_
  refine g_iload_n X dX11_clock_76 rfl ?_
  refine g_iald' X 1 rfl (i := c) rfl (by omega) (by omega) dX11_clock_77 ?_
  refine g_callSi X (c_X11_bits V (wb c)) mo_X11_bits kl_X11_137 [] [0, 0] rfl (by decide +kernel) rfl rfl (fun _ => Nat.le_of_ble_eq_true rfl) (As := [.int (wb c)]) (st := []) (cs' := (0, 0)) rfl rfl rfl dX11_clock_78 (fun r_20 u_16 hp_17 ws_19 hw_18 => ?_)
  obtain rfl : r_20 = bitsM (wb c) := hp_17
  have hw_18x : ws_19 = [(mm, .inr (11, [.int le_, .ref mtx, .int po_, .ref mnu, .int fa_, .int rcl_, .int rle_, .ref mrc, .ref mrw, .ref mrl, .int (nI n), .ref mki, .ref mwa, .int ls_, .ref mle, .ref mno, .ref mtr, .ref mse, .ref mba, .int ba_, .ref mim, .int km_, .int si_, .ref msi, .ref mfo, .int fm_, .ref mor, .ref mbo, .ref mma, .ref mbm, .ref mso])), (mwa, .inl (V.2.2.1, 7, .inl wb))] := hw_18.symm
  clear hw_18; subst hw_18x
  exact g_iret X E dX11_clock_81 () (bitsM (wb c)) (by first | rfl | (simp [c5_6, c14_12, c20_13, c34_14, c54_15]; done)) rfl

set_option maxHeartbeats 4000000 in
set_option maxRecDepth 100000 in
theorem w_wall_bad (V : gV) (mm : Nat) (mtx : Nat) (mnu : Nat) (mrc : Nat) (mrw : Nat) (mrl : Nat) (mki : Nat) (mwa : Nat) (mle : Nat) (mno : Nat) (mtr : Nat) (mse : Nat) (mba : Nat) (mim : Nat) (msi : Nat) (mfo : Nat) (mor : Nat) (mbo : Nat) (mma : Nat) (mbm : Nat) (mso : Nat) (le_ : Int32) (po_ : Int32) (fa_ : Int32) (rcl_ : Int32) (rle_ : Int32) (n : Nat) (ls_ : Int32) (ba_ : Int32) (km_ : Int32) (si_ : Int32) (fm_ : Int32) (a : Int32) (b : Int32) (hn : n ≤ 7) (h1n : 1 ≤ n) (hbad : ¬ (okC n a ∧ okC n b ∧ ¬ a = b)) : Ki V yX11_wall cX11_wall 3 .int ({ frames := 2, cells := 0, slots := 0, locals := 43 }) [.ref mm, .int a, .int b] [(mm, .inr (11, [.int le_, .ref mtx, .int po_, .ref mnu, .int fa_, .int rcl_, .int rle_, .ref mrc, .ref mrw, .ref mrl, .int (nI n), .ref mki, .ref mwa, .int ls_, .ref mle, .ref mno, .ref mtr, .ref mse, .ref mba, .int ba_, .ref mim, .int km_, .int si_, .ref msi, .ref mfo, .int fm_, .ref mor, .ref mbo, .ref mma, .ref mbm, .ref mso]))] (fun (r : Int32) (u : Unit) => r = -1) (fun u => [(mm, .inr (11, [.int le_, .ref mtx, .int po_, .ref mnu, .int fa_, .int rcl_, .int rle_, .ref mrc, .ref mrw, .ref mrl, .int (nI n), .ref mki, .ref mwa, .int ls_, .ref mle, .ref mno, .ref mtr, .ref mse, .ref mba, .int ba_, .ref mim, .int km_, .int si_, .ref msi, .ref mfo, .int fm_, .ref mor, .ref mbo, .ref mma, .ref mbm, .ref mso]))]) := by
  refine Ki.of [some (.ref mm), some (.int a), some (.int b)] (by decide) (Nat.le_of_ble_eq_true rfl) rfl rfl ?_
  intro Z X E
  have X : gX V Z RX11 cX11_wall 3 ({ frames := 2, cells := 0, slots := 0, locals := 43 }) := X
  refine g_aload_n X dX11_wall_0 rfl ?_
  refine g_iload_n X dX11_wall_1 rfl ?_
  refine g_callVi X (c_X11_isClock V mm mtx mnu mrc mrw mrl mki mwa mle mno mtr mse mba mim msi mfo mor mbo mma mbm mso le_ po_ fa_ rcl_ rle_ n ls_ ba_ km_ si_ fm_ a (by omega) (by omega)) mo_X11_isClock kl_X11_134 [0] [1] rfl (by decide +kernel) rfl rfl (fun _ => Nat.le_of_ble_eq_true rfl) 0 11 rfl rfl (As := [.int a]) (st := []) (cs' := (0, 0)) rfl rfl rfl rfl dX11_wall_2 (fun r_5 u_1 hp_2 ws_4 hw_3 => ?_)
  obtain rfl : r_5 = (if okC n a then 1 else 0) := hp_2
  have hw_3x : ws_4 = [(mm, .inr (11, [.int le_, .ref mtx, .int po_, .ref mnu, .int fa_, .int rcl_, .int rle_, .ref mrc, .ref mrw, .ref mrl, .int (nI n), .ref mki, .ref mwa, .int ls_, .ref mle, .ref mno, .ref mtr, .ref mse, .ref mba, .int ba_, .ref mim, .int km_, .int si_, .ref msi, .ref mfo, .int fm_, .ref mor, .ref mbo, .ref mma, .ref mbm, .ref mso]))] := hw_3.symm
  clear hw_3; subst hw_3x
  refine g_if_eq X 34 dX11_wall_5 (by decide) (fun c5_6 => ?_) (fun c5_6 => ?_)
  · refine g_iconst X (-1) dX11_wall_34 (by decide) ?_
    exact g_iret X E dX11_wall_35 () (-1) (by first | rfl | (simp [c5_6]; done)) rfl
  · refine g_aload_n X dX11_wall_8 rfl ?_
    refine g_iload_n X dX11_wall_9 rfl ?_
    refine g_callVi X (c_X11_isClock V mm mtx mnu mrc mrw mrl mki mwa mle mno mtr mse mba mim msi mfo mor mbo mma mbm mso le_ po_ fa_ rcl_ rle_ n ls_ ba_ km_ si_ fm_ b (by omega) (by omega)) mo_X11_isClock kl_X11_134 [0] [1] rfl (by decide +kernel) rfl rfl (fun _ => Nat.le_of_ble_eq_true rfl) 0 11 rfl rfl (As := [.int b]) (st := []) (cs' := (0, 0)) rfl rfl rfl rfl dX11_wall_10 (fun r_11 u_7 hp_8 ws_10 hw_9 => ?_)
    obtain rfl : r_11 = (if okC n b then 1 else 0) := hp_8
    have hw_9x : ws_10 = [(mm, .inr (11, [.int le_, .ref mtx, .int po_, .ref mnu, .int fa_, .int rcl_, .int rle_, .ref mrc, .ref mrw, .ref mrl, .int (nI n), .ref mki, .ref mwa, .int ls_, .ref mle, .ref mno, .ref mtr, .ref mse, .ref mba, .int ba_, .ref mim, .int km_, .int si_, .ref msi, .ref mfo, .int fm_, .ref mor, .ref mbo, .ref mma, .ref mbm, .ref mso]))] := hw_9.symm
    clear hw_9; subst hw_9x
    refine g_if_eq X 34 dX11_wall_13 (by decide) (fun c13_12 => ?_) (fun c13_12 => ?_)
    · refine g_iconst X (-1) dX11_wall_34 (by decide) ?_
      exact g_iret X E dX11_wall_35 () (-1) (by first | rfl | (simp [c5_6, c13_12]; done)) rfl
    · refine g_iload_n X dX11_wall_16 rfl ?_
      refine g_iload_n X dX11_wall_17 rfl ?_
      refine g_icmp_eq X 34 dX11_wall_18 (by decide) (fun c18_13 => ?_) (fun c18_13 => ?_)
      · refine g_iconst X (-1) dX11_wall_34 (by decide) ?_
        exact g_iret X E dX11_wall_35 () (-1) (by first | rfl | (simp [c5_6, c13_12, c18_13]; done)) rfl
      · exact absurd ⟨(by have z := c5_6; by_cases q9 : okC n a; exact q9; rw [if_neg q9] at z; exact absurd rfl z), (by have z := c13_12; by_cases q9 : okC n b; exact q9; rw [if_neg q9] at z; exact absurd rfl z), c18_13⟩ hbad

set_option maxHeartbeats 4000000 in
set_option maxRecDepth 100000 in
theorem w_wall_ok (V : gV) (mm : Nat) (mtx : Nat) (mnu : Nat) (mrc : Nat) (mrw : Nat) (mrl : Nat) (mki : Nat) (mwa : Nat) (mle : Nat) (mno : Nat) (mtr : Nat) (mse : Nat) (mba : Nat) (mim : Nat) (msi : Nat) (mfo : Nat) (mor : Nat) (mbo : Nat) (mma : Nat) (mbm : Nat) (mso : Nat) (le_ : Int32) (po_ : Int32) (fa_ : Int32) (rcl_ : Int32) (rle_ : Int32) (n : Nat) (ls_ : Int32) (ba_ : Int32) (km_ : Int32) (si_ : Int32) (fm_ : Int32) (wb : Nat → Int32) (a : Nat) (b : Nat) (hn : n ≤ 7) (h1n : 1 ≤ n) (hab : a < n ∧ b < n ∧ a ≠ b) : Ki V yX11_wall cX11_wall 3 .int ({ frames := 2, cells := 0, slots := 0, locals := 43 }) [.ref mm, .int (nI a), .int (nI b)] [(mm, .inr (11, [.int le_, .ref mtx, .int po_, .ref mnu, .int fa_, .int rcl_, .int rle_, .ref mrc, .ref mrw, .ref mrl, .int (nI n), .ref mki, .ref mwa, .int ls_, .ref mle, .ref mno, .ref mtr, .ref mse, .ref mba, .int ba_, .ref mim, .int km_, .int si_, .ref msi, .ref mfo, .int fm_, .ref mor, .ref mbo, .ref mma, .ref mbm, .ref mso])), (mwa, .inl (V.2.2.1, 7, .inl wb))] (fun (r : Int32) (u : Unit) => r = hasF (wb a) b) (fun u => [(mm, .inr (11, [.int le_, .ref mtx, .int po_, .ref mnu, .int fa_, .int rcl_, .int rle_, .ref mrc, .ref mrw, .ref mrl, .int (nI n), .ref mki, .ref mwa, .int ls_, .ref mle, .ref mno, .ref mtr, .ref mse, .ref mba, .int ba_, .ref mim, .int km_, .int si_, .ref msi, .ref mfo, .int fm_, .ref mor, .ref mbo, .ref mma, .ref mbm, .ref mso])), (mwa, .inl (V.2.2.1, 7, .inl wb))]) := by
  refine Ki.of [some (.ref mm), some (.int (nI a)), some (.int (nI b))] (by decide) (Nat.le_of_ble_eq_true rfl) rfl rfl ?_
  intro Z X E
  have X : gX V Z RX11 cX11_wall 3 ({ frames := 2, cells := 0, slots := 0, locals := 43 }) := X
  refine g_aload_n X dX11_wall_0 rfl ?_
  refine g_iload_n X dX11_wall_1 rfl ?_
  refine g_callVi X (c_X11_isClock V mm mtx mnu mrc mrw mrl mki mwa mle mno mtr mse mba mim msi mfo mor mbo mma mbm mso le_ po_ fa_ rcl_ rle_ n ls_ ba_ km_ si_ fm_ (nI a) (by omega) (by omega)) mo_X11_isClock kl_X11_134 [0] [1, 0] rfl (by decide +kernel) rfl rfl (fun _ => Nat.le_of_ble_eq_true rfl) 0 11 rfl rfl (As := [.int (nI a)]) (st := []) (cs' := (0, 0)) rfl rfl rfl rfl dX11_wall_2 (fun r_5 u_1 hp_2 ws_4 hw_3 => ?_)
  obtain rfl : r_5 = (if okC n (nI a) then 1 else 0) := hp_2
  have hw_3x : ws_4 = [(mm, .inr (11, [.int le_, .ref mtx, .int po_, .ref mnu, .int fa_, .int rcl_, .int rle_, .ref mrc, .ref mrw, .ref mrl, .int (nI n), .ref mki, .ref mwa, .int ls_, .ref mle, .ref mno, .ref mtr, .ref mse, .ref mba, .int ba_, .ref mim, .int km_, .int si_, .ref msi, .ref mfo, .int fm_, .ref mor, .ref mbo, .ref mma, .ref mbm, .ref mso])), (mwa, .inl (V.2.2.1, 7, .inl wb))] := hw_3.symm
  clear hw_3; subst hw_3x
  refine g_if_eq X 34 dX11_wall_5 (by decide) (fun c5_6 => absurd c5_6 (by rw [if_pos (okC_nI hab.1 (by omega))]; decide)) (fun c5_6 => ?_)
  refine g_aload_n X dX11_wall_8 rfl ?_
  refine g_iload_n X dX11_wall_9 rfl ?_
  refine g_callVi X (c_X11_isClock V mm mtx mnu mrc mrw mrl mki mwa mle mno mtr mse mba mim msi mfo mor mbo mma mbm mso le_ po_ fa_ rcl_ rle_ n ls_ ba_ km_ si_ fm_ (nI b) (by omega) (by omega)) mo_X11_isClock kl_X11_134 [0] [1, 0] rfl (by decide +kernel) rfl rfl (fun _ => Nat.le_of_ble_eq_true rfl) 0 11 rfl rfl (As := [.int (nI b)]) (st := []) (cs' := (0, 0)) rfl rfl rfl rfl dX11_wall_10 (fun r_11 u_7 hp_8 ws_10 hw_9 => ?_)
  obtain rfl : r_11 = (if okC n (nI b) then 1 else 0) := hp_8
  have hw_9x : ws_10 = [(mm, .inr (11, [.int le_, .ref mtx, .int po_, .ref mnu, .int fa_, .int rcl_, .int rle_, .ref mrc, .ref mrw, .ref mrl, .int (nI n), .ref mki, .ref mwa, .int ls_, .ref mle, .ref mno, .ref mtr, .ref mse, .ref mba, .int ba_, .ref mim, .int km_, .int si_, .ref msi, .ref mfo, .int fm_, .ref mor, .ref mbo, .ref mma, .ref mbm, .ref mso])), (mwa, .inl (V.2.2.1, 7, .inl wb))] := hw_9.symm
  clear hw_9; subst hw_9x
  refine g_if_eq X 34 dX11_wall_13 (by decide) (fun c13_12 => absurd c13_12 (by rw [if_pos (okC_nI hab.2.1 (by omega))]; decide)) (fun c13_12 => ?_)
  refine g_iload_n X dX11_wall_16 rfl ?_
  refine g_iload_n X dX11_wall_17 rfl ?_
  refine g_icmp_eq X 34 dX11_wall_18 (by decide) (fun c18_13 => absurd c18_13 (feq (a := a) (b := b) (by omega) (by omega) (by omega))) (fun c18_13 => ?_)
  refine g_aload_n X dX11_wall_21 rfl ?_
  refine g_get X uwX11 0 rfl rfl 12 (by decide) kl_X11_28 rfl rfl gwX11 dX11_wall_22 ?_
  refine g_iload_n X dX11_wall_25 rfl ?_
  refine g_iald' X 1 rfl (i := a) rfl (by omega) (by omega) dX11_wall_26 ?_
  refine g_iload_n X dX11_wall_27 rfl ?_
  refine g_ishr X dX11_wall_28 ?_
  refine g_iconst X (1) dX11_wall_29 (by decide) ?_
  refine g_iand X dX11_wall_30 ?_
  refine g_goto X 35 dX11_wall_31 (by decide) ?_
  exact g_iret X E dX11_wall_35 () (((wb a) >>> ((nI b) &&& 31)) &&& 1) (and1_has _ _) rfl

set_option maxHeartbeats 4000000 in
set_option maxRecDepth 100000 in
theorem w_noon (V : gV) (mm : Nat) (mtx : Nat) (mnu : Nat) (mrc : Nat) (mrw : Nat) (mrl : Nat) (mki : Nat) (mwa : Nat) (mle : Nat) (mno : Nat) (mtr : Nat) (mse : Nat) (mba : Nat) (mim : Nat) (msi : Nat) (mfo : Nat) (mor : Nat) (mbo : Nat) (mma : Nat) (mbm : Nat) (mso : Nat) (le_ : Int32) (po_ : Int32) (fa_ : Int32) (rcl_ : Int32) (rle_ : Int32) (n : Nat) (ls_ : Int32) (ba_ : Int32) (km_ : Int32) (si_ : Int32) (fm_ : Int32) (day : Int32) (w : Nat → Int32) (g : Nat → Int32) (so : Nat → Int32) (hn : n ≤ 7) (h1n : 1 ≤ n) : Ki V yX11_noon cX11_noon 1 .int ({ frames := 1, cells := 0, slots := 0, locals := 23 }) [.ref mm] [(mm, .inr (11, [.int le_, .ref mtx, .int po_, .ref mnu, .int fa_, .int rcl_, .int rle_, .ref mrc, .ref mrw, .ref mrl, .int (nI n), .ref mki, .ref mwa, .int ls_, .ref mle, .ref mno, .ref mtr, .ref mse, .ref mba, .int ba_, .ref mim, .int km_, .int si_, .ref msi, .ref mfo, .int fm_, .ref mor, .ref mbo, .ref mma, .ref mbm, .ref mso])), (mno, .inl (V.2.2.1, 15, .inl (stF day w g))), (mso, .inl (V.2.2.1, 7, .inl so))] (fun (r : Int32) (u : (Nat → Int32)) => r = midF n w + 600) (fun u => [(mm, .inr (11, [.int le_, .ref mtx, .int po_, .ref mnu, .int fa_, .int rcl_, .int rle_, .ref mrc, .ref mrw, .ref mrl, .int (nI n), .ref mki, .ref mwa, .int ls_, .ref mle, .ref mno, .ref mtr, .ref mse, .ref mba, .int ba_, .ref mim, .int km_, .int si_, .ref msi, .ref mfo, .int fm_, .ref mor, .ref mbo, .ref mma, .ref mbm, .ref mso])), (mno, .inl (V.2.2.1, 15, .inl (stF day w g))), (mso, .inl (V.2.2.1, 7, .inl u))]) := by
  refine Ki.of [some (.ref mm)] (by decide) (Nat.le_of_ble_eq_true rfl) rfl rfl ?_
  intro Z X E
  have X : gX V Z RX11 cX11_noon 1 ({ frames := 1, cells := 0, slots := 0, locals := 23 }) := X
  refine g_aload_n X dX11_noon_0 rfl ?_
  refine g_aload_n X dX11_noon_1 rfl ?_
  refine g_get X uwX11 0 rfl rfl 15 (by decide) kl_X11_34 rfl rfl gwX11 dX11_noon_2 ?_
  refine g_callVi X (c_X11_noonOf V mm mtx mnu mrc mrw mrl mki mwa mle mno mtr mse mba mim msi mfo mor mbo mma mbm mso le_ po_ fa_ rcl_ rle_ n ls_ ba_ km_ si_ fm_ so day w g mno (by omega) (by omega)) mo_X11_noonOf kl_X11_140 [0, 2, 1] [1, 3, 2] rfl (by decide +kernel) rfl rfl (fun _ => Nat.le_of_ble_eq_true rfl) 0 11 rfl rfl (As := [.ref mno]) (st := []) (cs' := (0, 0)) rfl rfl rfl rfl dX11_noon_5 (fun r_5 ns_1 hp_2 ws_4 hw_3 => ?_)
  obtain rfl : r_5 = midF n w := hp_2
  have hw_3x : ws_4 = [(mm, .inr (11, [.int le_, .ref mtx, .int po_, .ref mnu, .int fa_, .int rcl_, .int rle_, .ref mrc, .ref mrw, .ref mrl, .int (nI n), .ref mki, .ref mwa, .int ls_, .ref mle, .ref mno, .ref mtr, .ref mse, .ref mba, .int ba_, .ref mim, .int km_, .int si_, .ref msi, .ref mfo, .int fm_, .ref mor, .ref mbo, .ref mma, .ref mbm, .ref mso])), (mno, .inl (V.2.2.1, 15, .inl (stF day w g))), (mso, .inl (V.2.2.1, 7, .inl ns_1))] := hw_3.symm
  clear hw_3; subst hw_3x
  refine g_sipush X (600) dX11_noon_8 (by decide) ?_
  refine g_iadd X dX11_noon_11 ?_
  exact g_iret X E dX11_noon_12 ns_1 ((midF n w) + 600) (by first | rfl | (simp []; done)) rfl

set_option maxHeartbeats 4000000 in
set_option maxRecDepth 100000 in
theorem c_X11_note (V : gV) (mm : Nat) (mtx : Nat) (mnu : Nat) (mrc : Nat) (mrw : Nat) (mrl : Nat) (mki : Nat) (mwa : Nat) (mle : Nat) (mno : Nat) (mtr : Nat) (mse : Nat) (mba : Nat) (mim : Nat) (msi : Nat) (mfo : Nat) (mor : Nat) (mbo : Nat) (mma : Nat) (mbm : Nat) (mso : Nat) (le_ : Int32) (po_ : Int32) (fa_ : Int32) (rcl_ : Int32) (rle_ : Int32) (cl_ : Int32) (ls_ : Int32) (q : Nat) (km_ : Int32) (si_ : Int32) (fm_ : Int32) (day : Int32) (w : Nat → Int32) (g : Nat → Int32) (zd : Nat → Int32) (zw : Nat → Nat → Int32) (zg : Nat → Nat → Int32) (hq : q ≤ 8) : Kv V yX11_note cX11_note 2 ({ frames := 1, cells := 0, slots := 0, locals := 24 }) [.ref mm] [(mm, .inr (11, [.int le_, .ref mtx, .int po_, .ref mnu, .int fa_, .int rcl_, .int rle_, .ref mrc, .ref mrw, .ref mrl, .int cl_, .ref mki, .ref mwa, .int ls_, .ref mle, .ref mno, .ref mtr, .ref mse, .ref mba, .int (nI q), .ref mim, .int km_, .int si_, .ref msi, .ref mfo, .int fm_, .ref mor, .ref mbo, .ref mma, .ref mbm, .ref mso])), (mno, .inl (V.2.2.1, 15, .inl (stF day w g))), (mba, .inl (V.2.2.1, 120, .inl (bkF zd zw zg)))] (fun u : Unit => True) (fun u => [(mm, .inr (11, [.int le_, .ref mtx, .int po_, .ref mnu, .int fa_, .int rcl_, .int rle_, .ref mrc, .ref mrw, .ref mrl, .int cl_, .ref mki, .ref mwa, .int ls_, .ref mle, .ref mno, .ref mtr, .ref mse, .ref mba, .int (nI (min 8 (q + 1))), .ref mim, .int km_, .int si_, .ref msi, .ref mfo, .int fm_, .ref mor, .ref mbo, .ref mma, .ref mbm, .ref mso])), (mno, .inl (V.2.2.1, 15, .inl (stF day w g))), (mba, .inl (V.2.2.1, 120, .inl (bkF (pushF q day zd) (pushF q w zw) (pushF q g zg))))]) := by
  refine Kv.of [some (.ref mm), none] (by decide) (Nat.le_of_ble_eq_true rfl) rfl rfl ?_
  intro Z X E
  have X : gX V Z RX11 cX11_note 2 ({ frames := 1, cells := 0, slots := 0, locals := 24 }) := X
  by_cases h8 : q = 8
  · refine g_aload_n X dX11_note_0 rfl ?_
    refine g_get X uwX11 0 rfl rfl 19 (by decide) kl_X11_125 rfl rfl gwX11 dX11_note_1 ?_
    refine g_bipush X (8) dX11_note_4 (by decide) ?_
    refine g_icmp_ne X 48 dX11_note_6 (by decide) (fun c6_1 => absurd (teq (a := q) (b := 8) (by omega) (by omega) (by omega)) c6_1) (fun c6_1 => ?_)
    refine g_iconst X (0) dX11_note_9 (by decide) ?_
    refine g_istore_n X (L' := [some (.ref mm), some (.int 0)]) dX11_note_10 (by decide) rfl rfl ?_
    have loop11_2 : ∀ (d11 i : Nat), i + d11 = 105 → ∀ (w1 : Nat → Int32) (hs1 : ∀ j, j < i → w1 j = bkF zd zw zg (j + 15)) (hs2 : ∀ j, i ≤ j → w1 j = bkF zd zw zg j), G V Z 2 (0, 0) [(mm, .inr (11, [.int le_, .ref mtx, .int po_, .ref mnu, .int fa_, .int rcl_, .int rle_, .ref mrc, .ref mrw, .ref mrl, .int cl_, .ref mki, .ref mwa, .int ls_, .ref mle, .ref mno, .ref mtr, .ref mse, .ref mba, .int (nI q), .ref mim, .int km_, .int si_, .ref msi, .ref mfo, .int fm_, .ref mor, .ref mbo, .ref mma, .ref mbm, .ref mso])), (mno, .inl (V.2.2.1, 15, .inl (stF day w g))), (mba, .inl (V.2.2.1, 120, .inl w1))] 11 [some (.ref mm), some (.int (nI i))] [] := by
      intro d11
      induction d11 with
      | zero =>
        intro i hi w1 hs1 hs2
        refine g_iload_n X dX11_note_11 rfl ?_
        refine g_bipush X (105) dX11_note_12 (by decide) ?_
        refine g_icmp_ge X 38 dX11_note_14 (by decide) (fun c14_3 => ?_) (fun c14_3 => absurd (tge (a := i) (b := 105) (by omega) (by omega) (by omega)) c14_3)
        refine g_aload_n X dX11_note_38 rfl ?_
        refine g_dup X dX11_note_39 rfl ?_
        refine g_get X uwX11 0 rfl rfl 19 (by decide) kl_X11_125 rfl rfl gwX11 dX11_note_40 ?_
        refine g_iconst X (1) dX11_note_43 (by decide) ?_
        refine g_isub X dX11_note_44 ?_
        refine g_toe (x' := nI (q - 1)) (nI_sub' rfl rfl (by omega)) ?_
        refine g_put X uwX11 tyX11 tyX11_ok nmX11 0 rfl rfl 19 (by decide) kl_X11_125 rfl rfl rfl rfl (Nat.le_of_ble_eq_true rfl) gwX11 (ws' := [(mm, .inr (11, [.int le_, .ref mtx, .int po_, .ref mnu, .int fa_, .int rcl_, .int rle_, .ref mrc, .ref mrw, .ref mrl, .int cl_, .ref mki, .ref mwa, .int ls_, .ref mle, .ref mno, .ref mtr, .ref mse, .ref mba, .int (nI (q - 1)), .ref mim, .int km_, .int si_, .ref msi, .ref mfo, .int fm_, .ref mor, .ref mbo, .ref mma, .ref mbm, .ref mso])), (mno, .inl (V.2.2.1, 15, .inl (stF day w g))), (mba, .inl (V.2.2.1, 120, .inl w1))]) rfl dX11_note_45 ?_
        refine g_aload_n X dX11_note_48 rfl ?_
        refine g_get X uwX11 0 rfl rfl 15 (by decide) kl_X11_34 rfl rfl gwX11 dX11_note_49 ?_
        refine g_iconst X (0) dX11_note_52 (by decide) ?_
        refine g_aload_n X dX11_note_53 rfl ?_
        refine g_get X uwX11 0 rfl rfl 18 (by decide) kl_X11_43 rfl rfl gwX11 dX11_note_54 ?_
        refine g_bipush X (15) dX11_note_57 (by decide) ?_
        refine g_aload_n X dX11_note_59 rfl ?_
        refine g_get X uwX11 0 rfl rfl 19 (by decide) kl_X11_125 rfl rfl gwX11 dX11_note_60 ?_
        refine g_imul X dX11_note_63 ?_
        refine g_toe (x' := nI (15 * (q - 1))) (nI_mul' rfl rfl) ?_
        refine g_callSv X (c_X11_copy V mno 15 (stF day w g) mba 120 w1 0 (15 * (q - 1)) (by omega) (by omega) (by omega) (by omega)) mo_X11_copy kl_X11_165 [1, 2] [0, 1, 2] rfl (by decide +kernel) rfl rfl (fun _ => Nat.le_of_ble_eq_true rfl) (As := [.ref mno, .int 0, .ref mba, .int (nI (15 * (q - 1)))]) (st := []) (cs' := (0, 0)) rfl rfl rfl dX11_note_64 (fun u_4 hp_5 ws_7 hw_6 => ?_)
        have hw_6x : ws_7 = [(mm, .inr (11, [.int le_, .ref mtx, .int po_, .ref mnu, .int fa_, .int rcl_, .int rle_, .ref mrc, .ref mrw, .ref mrl, .int cl_, .ref mki, .ref mwa, .int ls_, .ref mle, .ref mno, .ref mtr, .ref mse, .ref mba, .int (nI (q - 1)), .ref mim, .int km_, .int si_, .ref msi, .ref mfo, .int fm_, .ref mor, .ref mbo, .ref mma, .ref mbm, .ref mso])), (mno, .inl (V.2.2.1, 15, .inl (stF day w g))), (mba, .inl (V.2.2.1, 120, .inl (cpM (15 * (q - 1)) 0 (stF day w g) w1)))] := hw_6.symm
        clear hw_6; subst hw_6x
        refine g_arr 2 (bkF (pushF q day zd) (pushF q w zw) (pushF q g zg)) rfl (by subst h8; exact cpM_drop (fun j hj => hs1 j (by omega))) (ws' := [(mm, .inr (11, [.int le_, .ref mtx, .int po_, .ref mnu, .int fa_, .int rcl_, .int rle_, .ref mrc, .ref mrw, .ref mrl, .int cl_, .ref mki, .ref mwa, .int ls_, .ref mle, .ref mno, .ref mtr, .ref mse, .ref mba, .int (nI (q - 1)), .ref mim, .int km_, .int si_, .ref msi, .ref mfo, .int fm_, .ref mor, .ref mbo, .ref mma, .ref mbm, .ref mso])), (mno, .inl (V.2.2.1, 15, .inl (stF day w g))), (mba, .inl (V.2.2.1, 120, .inl (bkF (pushF q day zd) (pushF q w zw) (pushF q g zg))))]) rfl ?_
        refine g_aload_n X dX11_note_67 rfl ?_
        refine g_dup X dX11_note_68 rfl ?_
        refine g_get X uwX11 0 rfl rfl 19 (by decide) kl_X11_125 rfl rfl gwX11 dX11_note_69 ?_
        refine g_iconst X (1) dX11_note_72 (by decide) ?_
        refine g_iadd X dX11_note_73 ?_
        refine g_toe (x' := nI (q - 1 + 1)) (nI_add' rfl rfl) ?_
        refine g_put X uwX11 tyX11 tyX11_ok nmX11 0 rfl rfl 19 (by decide) kl_X11_125 rfl rfl rfl rfl (Nat.le_of_ble_eq_true rfl) gwX11 (ws' := [(mm, .inr (11, [.int le_, .ref mtx, .int po_, .ref mnu, .int fa_, .int rcl_, .int rle_, .ref mrc, .ref mrw, .ref mrl, .int cl_, .ref mki, .ref mwa, .int ls_, .ref mle, .ref mno, .ref mtr, .ref mse, .ref mba, .int (nI (q - 1 + 1)), .ref mim, .int km_, .int si_, .ref msi, .ref mfo, .int fm_, .ref mor, .ref mbo, .ref mma, .ref mbm, .ref mso])), (mno, .inl (V.2.2.1, 15, .inl (stF day w g))), (mba, .inl (V.2.2.1, 120, .inl (bkF (pushF q day zd) (pushF q w zw) (pushF q g zg))))]) rfl dX11_note_74 ?_
        exact g_vret X E dX11_note_77 () trivial (by generalize hz : min 8 (q + 1) = z; first | (have e : q - 1 + 1 = z := (by omega); rw [e]) | (have e : q + 1 = z := (by omega); rw [e]))
      | succ d11 ih11 =>
        intro i hi w1 hs1 hs2
        refine g_iload_n X dX11_note_11 rfl ?_
        refine g_bipush X (105) dX11_note_12 (by decide) ?_
        refine g_icmp_ge X 38 dX11_note_14 (by decide) (fun c14_9 => absurd c14_9 (fge (a := i) (b := 105) (by omega) (by omega) (by omega))) (fun c14_9 => ?_)
        refine g_aload_n X dX11_note_17 rfl ?_
        refine g_get X uwX11 0 rfl rfl 18 (by decide) kl_X11_43 rfl rfl gwX11 dX11_note_18 ?_
        refine g_iload_n X dX11_note_21 rfl ?_
        refine g_aload_n X dX11_note_22 rfl ?_
        refine g_get X uwX11 0 rfl rfl 18 (by decide) kl_X11_43 rfl rfl gwX11 dX11_note_23 ?_
        refine g_iload_n X dX11_note_26 rfl ?_
        refine g_bipush X (15) dX11_note_27 (by decide) ?_
        refine g_iadd X dX11_note_29 ?_
        refine g_toe (x' := nI (i + 15)) (nI_add' rfl rfl) ?_
        refine g_iald' X 2 rfl (i := (i + 15)) rfl (by omega) (by omega) dX11_note_30 ?_
        refine g_iast' X 2 rfl (i := i) rfl (by omega) (by omega) (ws' := [(mm, .inr (11, [.int le_, .ref mtx, .int po_, .ref mnu, .int fa_, .int rcl_, .int rle_, .ref mrc, .ref mrw, .ref mrl, .int cl_, .ref mki, .ref mwa, .int ls_, .ref mle, .ref mno, .ref mtr, .ref mse, .ref mba, .int (nI q), .ref mim, .int km_, .int si_, .ref msi, .ref mfo, .int fm_, .ref mor, .ref mbo, .ref mma, .ref mbm, .ref mso])), (mno, .inl (V.2.2.1, 15, .inl (stF day w g))), (mba, .inl (V.2.2.1, 120, .inl (upd w1 i (w1 (i + 15)))))]) rfl dX11_note_31 ?_
        refine g_iinc X (v := nI (i + 1)) (L' := [some (.ref mm), some (.int (nI (i + 1)))]) dX11_note_32 rfl (nI_addk (by decide)) (by decide) rfl rfl ?_
        refine g_goto X 11 dX11_note_35 (by decide) ?_
        exact ih11 (i + 1) (by omega) (upd w1 i (w1 (i + 15))) (fun j hj => by
          by_cases e : j = i
          · rw [e, pk_us, hs2 _ (by omega)]
          · rw [pk_un e]; exact hs1 j (by omega)) (fun j hj => by rw [pk_un (by omega)]; exact hs2 j (by omega))
    exact loop11_2 105 0 (by omega) (bkF zd zw zg) (fun j h => absurd h (Nat.not_lt_zero _)) (fun j _ => rfl)
  · refine g_aload_n X dX11_note_0 rfl ?_
    refine g_get X uwX11 0 rfl rfl 19 (by decide) kl_X11_125 rfl rfl gwX11 dX11_note_1 ?_
    refine g_bipush X (8) dX11_note_4 (by decide) ?_
    refine g_icmp_ne X 48 dX11_note_6 (by decide) (fun c6_10 => ?_) (fun c6_10 => absurd c6_10 (tne (a := q) (b := 8) (by omega) (by omega) (by omega)))
    refine g_aload_n X dX11_note_48 rfl ?_
    refine g_get X uwX11 0 rfl rfl 15 (by decide) kl_X11_34 rfl rfl gwX11 dX11_note_49 ?_
    refine g_iconst X (0) dX11_note_52 (by decide) ?_
    refine g_aload_n X dX11_note_53 rfl ?_
    refine g_get X uwX11 0 rfl rfl 18 (by decide) kl_X11_43 rfl rfl gwX11 dX11_note_54 ?_
    refine g_bipush X (15) dX11_note_57 (by decide) ?_
    refine g_aload_n X dX11_note_59 rfl ?_
    refine g_get X uwX11 0 rfl rfl 19 (by decide) kl_X11_125 rfl rfl gwX11 dX11_note_60 ?_
    refine g_imul X dX11_note_63 ?_
    refine g_toe (x' := nI (15 * q)) (nI_mul' rfl rfl) ?_
    refine g_callSv X (c_X11_copy V mno 15 (stF day w g) mba 120 (bkF zd zw zg) 0 (15 * q) (by omega) (by omega) (by omega) (by omega)) mo_X11_copy kl_X11_165 [1, 2] [0, 1, 2] rfl (by decide +kernel) rfl rfl (fun _ => Nat.le_of_ble_eq_true rfl) (As := [.ref mno, .int 0, .ref mba, .int (nI (15 * q))]) (st := []) (cs' := (0, 0)) rfl rfl rfl dX11_note_64 (fun u_11 hp_12 ws_14 hw_13 => ?_)
    have hw_13x : ws_14 = [(mm, .inr (11, [.int le_, .ref mtx, .int po_, .ref mnu, .int fa_, .int rcl_, .int rle_, .ref mrc, .ref mrw, .ref mrl, .int cl_, .ref mki, .ref mwa, .int ls_, .ref mle, .ref mno, .ref mtr, .ref mse, .ref mba, .int (nI q), .ref mim, .int km_, .int si_, .ref msi, .ref mfo, .int fm_, .ref mor, .ref mbo, .ref mma, .ref mbm, .ref mso])), (mno, .inl (V.2.2.1, 15, .inl (stF day w g))), (mba, .inl (V.2.2.1, 120, .inl (cpM (15 * q) 0 (stF day w g) (bkF zd zw zg))))] := hw_13.symm
    clear hw_13; subst hw_13x
    refine g_arr 2 (bkF (pushF q day zd) (pushF q w zw) (pushF q g zg)) rfl (by rw [pushF_lt (by omega), pushF_lt (by omega), pushF_lt (by omega)]; exact cpM_put q 120) (ws' := [(mm, .inr (11, [.int le_, .ref mtx, .int po_, .ref mnu, .int fa_, .int rcl_, .int rle_, .ref mrc, .ref mrw, .ref mrl, .int cl_, .ref mki, .ref mwa, .int ls_, .ref mle, .ref mno, .ref mtr, .ref mse, .ref mba, .int (nI q), .ref mim, .int km_, .int si_, .ref msi, .ref mfo, .int fm_, .ref mor, .ref mbo, .ref mma, .ref mbm, .ref mso])), (mno, .inl (V.2.2.1, 15, .inl (stF day w g))), (mba, .inl (V.2.2.1, 120, .inl (bkF (pushF q day zd) (pushF q w zw) (pushF q g zg))))]) rfl ?_
    refine g_aload_n X dX11_note_67 rfl ?_
    refine g_dup X dX11_note_68 rfl ?_
    refine g_get X uwX11 0 rfl rfl 19 (by decide) kl_X11_125 rfl rfl gwX11 dX11_note_69 ?_
    refine g_iconst X (1) dX11_note_72 (by decide) ?_
    refine g_iadd X dX11_note_73 ?_
    refine g_toe (x' := nI (q + 1)) (nI_add' rfl rfl) ?_
    refine g_put X uwX11 tyX11 tyX11_ok nmX11 0 rfl rfl 19 (by decide) kl_X11_125 rfl rfl rfl rfl (Nat.le_of_ble_eq_true rfl) gwX11 (ws' := [(mm, .inr (11, [.int le_, .ref mtx, .int po_, .ref mnu, .int fa_, .int rcl_, .int rle_, .ref mrc, .ref mrw, .ref mrl, .int cl_, .ref mki, .ref mwa, .int ls_, .ref mle, .ref mno, .ref mtr, .ref mse, .ref mba, .int (nI (q + 1)), .ref mim, .int km_, .int si_, .ref msi, .ref mfo, .int fm_, .ref mor, .ref mbo, .ref mma, .ref mbm, .ref mso])), (mno, .inl (V.2.2.1, 15, .inl (stF day w g))), (mba, .inl (V.2.2.1, 120, .inl (bkF (pushF q day zd) (pushF q w zw) (pushF q g zg))))]) rfl dX11_note_74 ?_
    exact g_vret X E dX11_note_77 () trivial (by generalize hz : min 8 (q + 1) = z; first | (have e : q - 1 + 1 = z := (by omega); rw [e]) | (have e : q + 1 = z := (by omega); rw [e]))

set_option maxHeartbeats 4000000 in
set_option maxRecDepth 100000 in
theorem w_pass_bad (V : gV) (mm : Nat) (mtx : Nat) (mnu : Nat) (mrc : Nat) (mrw : Nat) (mrl : Nat) (mki : Nat) (mwa : Nat) (mle : Nat) (mno : Nat) (mtr : Nat) (mse : Nat) (mba : Nat) (mim : Nat) (msi : Nat) (mfo : Nat) (mor : Nat) (mbo : Nat) (mma : Nat) (mbm : Nat) (mso : Nat) (le_ : Int32) (po_ : Int32) (fa_ : Int32) (rcl_ : Int32) (rle_ : Int32) (cl_ : Int32) (ls_ : Int32) (ba_ : Int32) (km_ : Int32) (si_ : Int32) (fm_ : Int32) (c : Int32) (hbad : ¬ (¬ c < 1 ∧ c ≤ 20)) : Ki V yX11_pass cX11_pass 3 .int ({ frames := 1, cells := 0, slots := 0, locals := 22 }) [.ref mm, .int c] [(mm, .inr (11, [.int le_, .ref mtx, .int po_, .ref mnu, .int fa_, .int rcl_, .int rle_, .ref mrc, .ref mrw, .ref mrl, .int cl_, .ref mki, .ref mwa, .int ls_, .ref mle, .ref mno, .ref mtr, .ref mse, .ref mba, .int ba_, .ref mim, .int km_, .int si_, .ref msi, .ref mfo, .int fm_, .ref mor, .ref mbo, .ref mma, .ref mbm, .ref mso]))] (fun (r : Int32) (u : Unit) => r = -1) (fun u => [(mm, .inr (11, [.int le_, .ref mtx, .int po_, .ref mnu, .int fa_, .int rcl_, .int rle_, .ref mrc, .ref mrw, .ref mrl, .int cl_, .ref mki, .ref mwa, .int ls_, .ref mle, .ref mno, .ref mtr, .ref mse, .ref mba, .int ba_, .ref mim, .int km_, .int si_, .ref msi, .ref mfo, .int fm_, .ref mor, .ref mbo, .ref mma, .ref mbm, .ref mso]))]) := by
  refine Ki.of [some (.ref mm), some (.int c), none] (by decide) (Nat.le_of_ble_eq_true rfl) rfl rfl ?_
  intro Z X E
  have X : gX V Z RX11 cX11_pass 3 ({ frames := 1, cells := 0, slots := 0, locals := 22 }) := X
  refine g_iload_n X dX11_pass_0 rfl ?_
  refine g_iconst X (1) dX11_pass_1 (by decide) ?_
  refine g_bipush X (20) dX11_pass_2 (by decide) ?_
  refine g_callSi X (c_X11_in V c 1 20) mo_X11_in kl_X11_94 [] [0] rfl (by decide +kernel) rfl rfl (fun _ => Nat.le_of_ble_eq_true rfl) (As := [.int c, .int 1, .int 20]) (st := []) (cs' := (0, 0)) rfl rfl rfl dX11_pass_4 (fun r_5 u_1 hp_2 ws_4 hw_3 => ?_)
  obtain rfl : r_5 = inF c 1 20 := hp_2
  have hw_3x : ws_4 = [(mm, .inr (11, [.int le_, .ref mtx, .int po_, .ref mnu, .int fa_, .int rcl_, .int rle_, .ref mrc, .ref mrw, .ref mrl, .int cl_, .ref mki, .ref mwa, .int ls_, .ref mle, .ref mno, .ref mtr, .ref mse, .ref mba, .int ba_, .ref mim, .int km_, .int si_, .ref msi, .ref mfo, .int fm_, .ref mor, .ref mbo, .ref mma, .ref mbm, .ref mso]))] := hw_3.symm
  clear hw_3; subst hw_3x
  refine g_if_ne X 12 dX11_pass_7 (by decide) (fun c7_6 => absurd (inF_0 (fun z => hbad ⟨z.1, Int32.not_lt.mp z.2⟩)) c7_6) (fun c7_6 => ?_)
  refine g_iconst X (-1) dX11_pass_10 (by decide) ?_
  exact g_iret X E dX11_pass_11 () (-1) (by first | rfl | (simp [c7_6]; done)) rfl

set_option maxHeartbeats 4000000 in
set_option maxRecDepth 100000 in
theorem w_pass_ok (V : gV) (mm : Nat) (mtx : Nat) (mnu : Nat) (mrc : Nat) (mrw : Nat) (mrl : Nat) (mki : Nat) (mwa : Nat) (mle : Nat) (mno : Nat) (mtr : Nat) (mse : Nat) (mba : Nat) (mim : Nat) (msi : Nat) (mfo : Nat) (mor : Nat) (mbo : Nat) (mma : Nat) (mbm : Nat) (mso : Nat) (le_ : Int32) (po_ : Int32) (fa_ : Int32) (rcl_ : Int32) (rle_ : Int32) (n : Nat) (m : Nat) (q : Nat) (km_ : Int32) (si_ : Int32) (fm_ : Int32) (k : Nat → Int32) (wb : Nat → Int32) (ld : Nat → Nat) (te : Nat → Nat) (pu : Nat → Nat) (day : Int32) (w : Nat → Int32) (g : Nat → Int32) (zd : Nat → Int32) (zw : Nat → Nat → Int32) (zg : Nat → Nat → Int32) (v : Nat) (hn : n ≤ 7) (h1n : 1 ≤ n) (hm : m ≤ 9) (ht : ∀ i, i < m → te i < n ∧ pu i < n) (hq : q ≤ 8) (hv : 1 ≤ v ∧ v ≤ 20) (hB : Bd n w) : Ki V yX11_pass cX11_pass 3 .int ({ frames := 3, cells := 0, slots := 0, locals := 71 }) [.ref mm, .int (nI v)] [(mm, .inr (11, [.int le_, .ref mtx, .int po_, .ref mnu, .int fa_, .int rcl_, .int rle_, .ref mrc, .ref mrw, .ref mrl, .int (nI n), .ref mki, .ref mwa, .int (nI m), .ref mle, .ref mno, .ref mtr, .ref mse, .ref mba, .int (nI q), .ref mim, .int km_, .int si_, .ref msi, .ref mfo, .int fm_, .ref mor, .ref mbo, .ref mma, .ref mbm, .ref mso])), (mki, .inl (V.2.2.1, 7, .inl k)), (mwa, .inl (V.2.2.1, 7, .inl wb)), (mle, .inl (V.2.2.1, 27, .inl (leF ld te pu))), (mno, .inl (V.2.2.1, 15, .inl (stF day w g))), (mba, .inl (V.2.2.1, 120, .inl (bkF zd zw zg)))] (fun (r : Int32) (u : Unit) => r = day + nI v) (fun u => [(mm, .inr (11, [.int le_, .ref mtx, .int po_, .ref mnu, .int fa_, .int rcl_, .int rle_, .ref mrc, .ref mrw, .ref mrl, .int (nI n), .ref mki, .ref mwa, .int (nI m), .ref mle, .ref mno, .ref mtr, .ref mse, .ref mba, .int (nI (min 8 (q + 1))), .ref mim, .int km_, .int si_, .ref msi, .ref mfo, .int fm_, .ref mor, .ref mbo, .ref mma, .ref mbm, .ref mso])), (mki, .inl (V.2.2.1, 7, .inl k)), (mwa, .inl (V.2.2.1, 7, .inl wb)), (mle, .inl (V.2.2.1, 27, .inl (leF ld te pu))), (mno, .inl (V.2.2.1, 15, .inl (stF (day + nI v) (daysF k wb ld te pu n m g day v w) g))), (mba, .inl (V.2.2.1, 120, .inl (bkF (pushF q day zd) (pushF q w zw) (pushF q g zg))))]) := by
  refine Ki.of [some (.ref mm), some (.int (nI v)), none] (by decide) (Nat.le_of_ble_eq_true rfl) rfl rfl ?_
  intro Z X E
  have X : gX V Z RX11 cX11_pass 3 ({ frames := 3, cells := 0, slots := 0, locals := 71 }) := X
  refine g_iload_n X dX11_pass_0 rfl ?_
  refine g_iconst X (1) dX11_pass_1 (by decide) ?_
  refine g_bipush X (20) dX11_pass_2 (by decide) ?_
  refine g_callSi X (c_X11_in V (nI v) 1 20) mo_X11_in kl_X11_94 [] [0, 0, 0, 0, 0, 0] rfl (by decide +kernel) rfl rfl (fun _ => Nat.le_of_ble_eq_true rfl) (As := [.int (nI v), .int 1, .int 20]) (st := []) (cs' := (0, 0)) rfl rfl rfl dX11_pass_4 (fun r_5 u_1 hp_2 ws_4 hw_3 => ?_)
  obtain rfl : r_5 = inF (nI v) 1 20 := hp_2
  have hw_3x : ws_4 = [(mm, .inr (11, [.int le_, .ref mtx, .int po_, .ref mnu, .int fa_, .int rcl_, .int rle_, .ref mrc, .ref mrw, .ref mrl, .int (nI n), .ref mki, .ref mwa, .int (nI m), .ref mle, .ref mno, .ref mtr, .ref mse, .ref mba, .int (nI q), .ref mim, .int km_, .int si_, .ref msi, .ref mfo, .int fm_, .ref mor, .ref mbo, .ref mma, .ref mbm, .ref mso])), (mki, .inl (V.2.2.1, 7, .inl k)), (mwa, .inl (V.2.2.1, 7, .inl wb)), (mle, .inl (V.2.2.1, 27, .inl (leF ld te pu))), (mno, .inl (V.2.2.1, 15, .inl (stF day w g))), (mba, .inl (V.2.2.1, 120, .inl (bkF zd zw zg)))] := hw_3.symm
  clear hw_3; subst hw_3x
  refine g_if_ne X 12 dX11_pass_7 (by decide) (fun c7_6 => ?_) (fun c7_6 => absurd c7_6 (inF_ne (v := v) (lo := 1) (hi := 20) (by omega) (by omega)))
  refine g_aload_n X dX11_pass_12 rfl ?_
  refine g_callVv X (c_X11_note V mm mtx mnu mrc mrw mrl mki mwa mle mno mtr mse mba mim msi mfo mor mbo mma mbm mso le_ po_ fa_ rcl_ rle_ (nI n) (nI m) q km_ si_ fm_ day w g zd zw zg (by omega)) mo_X11_note kl_X11_169 [0, 4, 5] [1, 0, 0, 0, 2, 3] rfl (by decide +kernel) rfl rfl (fun _ => Nat.le_of_ble_eq_true rfl) 0 11 rfl rfl (As := []) (st := []) (cs' := (0, 0)) rfl rfl rfl rfl dX11_pass_13 (fun u_7 hp_8 ws_10 hw_9 => ?_)
  have hw_9x : ws_10 = [(mm, .inr (11, [.int le_, .ref mtx, .int po_, .ref mnu, .int fa_, .int rcl_, .int rle_, .ref mrc, .ref mrw, .ref mrl, .int (nI n), .ref mki, .ref mwa, .int (nI m), .ref mle, .ref mno, .ref mtr, .ref mse, .ref mba, .int (nI (min 8 (q + 1))), .ref mim, .int km_, .int si_, .ref msi, .ref mfo, .int fm_, .ref mor, .ref mbo, .ref mma, .ref mbm, .ref mso])), (mki, .inl (V.2.2.1, 7, .inl k)), (mwa, .inl (V.2.2.1, 7, .inl wb)), (mle, .inl (V.2.2.1, 27, .inl (leF ld te pu))), (mno, .inl (V.2.2.1, 15, .inl (stF day w g))), (mba, .inl (V.2.2.1, 120, .inl (bkF (pushF q day zd) (pushF q w zw) (pushF q g zg))))] := hw_9.symm
  clear hw_9; subst hw_9x
  refine g_iconst X (0) dX11_pass_16 (by decide) ?_
  refine g_istore_n X (L' := [some (.ref mm), some (.int (nI v)), some (.int 0)]) dX11_pass_17 (by decide) rfl rfl ?_
  have loop18_12 : ∀ (d18 i : Nat), i + d18 = v → ∀ (dy : Int32) (w1 : Nat → Int32) (hB1 : Bd n w1) (h1 : w1 = daysF k wb ld te pu n m g day i w) (h2 : dy = day + nI i), G V Z 3 (0, 0) [(mm, .inr (11, [.int le_, .ref mtx, .int po_, .ref mnu, .int fa_, .int rcl_, .int rle_, .ref mrc, .ref mrw, .ref mrl, .int (nI n), .ref mki, .ref mwa, .int (nI m), .ref mle, .ref mno, .ref mtr, .ref mse, .ref mba, .int (nI (min 8 (q + 1))), .ref mim, .int km_, .int si_, .ref msi, .ref mfo, .int fm_, .ref mor, .ref mbo, .ref mma, .ref mbm, .ref mso])), (mki, .inl (V.2.2.1, 7, .inl k)), (mwa, .inl (V.2.2.1, 7, .inl wb)), (mle, .inl (V.2.2.1, 27, .inl (leF ld te pu))), (mno, .inl (V.2.2.1, 15, .inl (stF dy w1 g))), (mba, .inl (V.2.2.1, 120, .inl (bkF (pushF q day zd) (pushF q w zw) (pushF q g zg))))] 18 [some (.ref mm), some (.int (nI v)), some (.int (nI i))] [] := by
    intro d18
    induction d18 with
    | zero =>
      intro i hi dy w1 hB1 h1 h2
      refine g_iload_n X dX11_pass_18 rfl ?_
      refine g_iload_n X dX11_pass_19 rfl ?_
      refine g_icmp_ge X 38 dX11_pass_20 (by decide) (fun c20_13 => ?_) (fun c20_13 => absurd (tge (a := i) (b := v) (by omega) (by omega) (by omega)) c20_13)
      refine g_aload_n X dX11_pass_38 rfl ?_
      refine g_get X uwX11 0 rfl rfl 15 (by decide) kl_X11_34 rfl rfl gwX11 dX11_pass_39 ?_
      refine g_iconst X (0) dX11_pass_42 (by decide) ?_
      refine g_iald' X 4 rfl (i := 0) rfl (by omega) (by omega) dX11_pass_43 ?_
      refine g_toe (x' := dy) rfl ?_
      exact g_iret X E dX11_pass_44 () dy (by have e : i = v := (by omega); subst e; exact h2) (by have e : i = v := (by omega); subst e; rw [h1, h2])
    | succ d18 ih18 =>
      intro i hi dy w1 hB1 h1 h2
      refine g_iload_n X dX11_pass_18 rfl ?_
      refine g_iload_n X dX11_pass_19 rfl ?_
      refine g_icmp_ge X 38 dX11_pass_20 (by decide) (fun c20_14 => absurd c20_14 (fge (a := i) (b := v) (by omega) (by omega) (by omega))) (fun c20_14 => ?_)
      refine g_aload_n X dX11_pass_23 rfl ?_
      refine g_aload_n X dX11_pass_24 rfl ?_
      refine g_get X uwX11 0 rfl rfl 15 (by decide) kl_X11_34 rfl rfl gwX11 dX11_pass_25 ?_
      refine g_iconst X (1) dX11_pass_28 (by decide) ?_
      refine g_callVv X (c_X11_passOn V mm mtx mnu mrc mrw mrl mki mwa mle mno mtr mse mba mim msi mfo mor mbo mma mbm mso le_ po_ fa_ rcl_ rle_ n m (nI (min 8 (q + 1))) km_ si_ fm_ k wb ld te pu dy w1 g mno 1 (by omega) (by omega) (by omega) ht hB1) mo_X11_passOn kl_X11_172 [0, 1, 2, 3, 4] [1, 2, 3, 4, 5, 0] rfl (by decide +kernel) rfl rfl (fun _ => Nat.le_of_ble_eq_true rfl) 0 11 rfl rfl (As := [.ref mno, .int 1]) (st := []) (cs' := (0, 0)) rfl rfl rfl rfl dX11_pass_29 (fun nw_15 hp_16 ws_18 hw_17 => ?_)
      obtain rfl : nw_15 = dayF k wb ld te pu n m g 1 dy w1 := hp_16
      have hw_17x : ws_18 = [(mm, .inr (11, [.int le_, .ref mtx, .int po_, .ref mnu, .int fa_, .int rcl_, .int rle_, .ref mrc, .ref mrw, .ref mrl, .int (nI n), .ref mki, .ref mwa, .int (nI m), .ref mle, .ref mno, .ref mtr, .ref mse, .ref mba, .int (nI (min 8 (q + 1))), .ref mim, .int km_, .int si_, .ref msi, .ref mfo, .int fm_, .ref mor, .ref mbo, .ref mma, .ref mbm, .ref mso])), (mki, .inl (V.2.2.1, 7, .inl k)), (mwa, .inl (V.2.2.1, 7, .inl wb)), (mle, .inl (V.2.2.1, 27, .inl (leF ld te pu))), (mno, .inl (V.2.2.1, 15, .inl (stF (dy + 1) (dayF k wb ld te pu n m g 1 dy w1) g))), (mba, .inl (V.2.2.1, 120, .inl (bkF (pushF q day zd) (pushF q w zw) (pushF q g zg))))] := hw_17.symm
      clear hw_17; subst hw_17x
      refine g_iinc X (v := nI (i + 1)) (L' := [some (.ref mm), some (.int (nI v)), some (.int (nI (i + 1)))]) dX11_pass_32 rfl (nI_addk (by decide)) (by decide) rfl rfl ?_
      refine g_goto X 18 dX11_pass_35 (by decide) ?_
      exact ih18 (i + 1) (by omega) (dy + 1) (dayF k wb ld te pu n m g 1 dy w1) Bd_day (by rw [daysF, it_s, ← daysF, ← h1, ← h2]) (by rw [h2, Int32.add_assoc, nI_1])
  exact loop18_12 v 0 (by omega) day w hB rfl (by rw [nI_0, Int32.add_zero])

set_option maxHeartbeats 4000000 in
set_option maxRecDepth 100000 in
theorem w_teach_bad (V : gV) (mm : Nat) (mtx : Nat) (mnu : Nat) (mrc : Nat) (mrw : Nat) (mrl : Nat) (mki : Nat) (mwa : Nat) (mle : Nat) (mno : Nat) (mtr : Nat) (mse : Nat) (mba : Nat) (mim : Nat) (msi : Nat) (mfo : Nat) (mor : Nat) (mbo : Nat) (mma : Nat) (mbm : Nat) (mso : Nat) (le_ : Int32) (po_ : Int32) (fa_ : Int32) (rcl_ : Int32) (rle_ : Int32) (n : Nat) (ls_ : Int32) (ba_ : Int32) (km_ : Int32) (si_ : Int32) (fm_ : Int32) (a : Int32) (b : Int32) (hn : n ≤ 7) (h1n : 1 ≤ n) (hbad : ¬ (okC n a ∧ okC n b ∧ ¬ a = b)) : Ki V yX11_teach cX11_teach 3 .int ({ frames := 2, cells := 0, slots := 0, locals := 43 }) [.ref mm, .int a, .int b] [(mm, .inr (11, [.int le_, .ref mtx, .int po_, .ref mnu, .int fa_, .int rcl_, .int rle_, .ref mrc, .ref mrw, .ref mrl, .int (nI n), .ref mki, .ref mwa, .int ls_, .ref mle, .ref mno, .ref mtr, .ref mse, .ref mba, .int ba_, .ref mim, .int km_, .int si_, .ref msi, .ref mfo, .int fm_, .ref mor, .ref mbo, .ref mma, .ref mbm, .ref mso]))] (fun (r : Int32) (u : Unit) => r = -1) (fun u => [(mm, .inr (11, [.int le_, .ref mtx, .int po_, .ref mnu, .int fa_, .int rcl_, .int rle_, .ref mrc, .ref mrw, .ref mrl, .int (nI n), .ref mki, .ref mwa, .int ls_, .ref mle, .ref mno, .ref mtr, .ref mse, .ref mba, .int ba_, .ref mim, .int km_, .int si_, .ref msi, .ref mfo, .int fm_, .ref mor, .ref mbo, .ref mma, .ref mbm, .ref mso]))]) := by
  refine Ki.of [some (.ref mm), some (.int a), some (.int b)] (by decide) (Nat.le_of_ble_eq_true rfl) rfl rfl ?_
  intro Z X E
  have X : gX V Z RX11 cX11_teach 3 ({ frames := 2, cells := 0, slots := 0, locals := 43 }) := X
  refine g_aload_n X dX11_teach_0 rfl ?_
  refine g_iload_n X dX11_teach_1 rfl ?_
  refine g_callVi X (c_X11_isClock V mm mtx mnu mrc mrw mrl mki mwa mle mno mtr mse mba mim msi mfo mor mbo mma mbm mso le_ po_ fa_ rcl_ rle_ n ls_ ba_ km_ si_ fm_ a (by omega) (by omega)) mo_X11_isClock kl_X11_134 [0] [1] rfl (by decide +kernel) rfl rfl (fun _ => Nat.le_of_ble_eq_true rfl) 0 11 rfl rfl (As := [.int a]) (st := []) (cs' := (0, 0)) rfl rfl rfl rfl dX11_teach_2 (fun r_5 u_1 hp_2 ws_4 hw_3 => ?_)
  obtain rfl : r_5 = (if okC n a then 1 else 0) := hp_2
  have hw_3x : ws_4 = [(mm, .inr (11, [.int le_, .ref mtx, .int po_, .ref mnu, .int fa_, .int rcl_, .int rle_, .ref mrc, .ref mrw, .ref mrl, .int (nI n), .ref mki, .ref mwa, .int ls_, .ref mle, .ref mno, .ref mtr, .ref mse, .ref mba, .int ba_, .ref mim, .int km_, .int si_, .ref msi, .ref mfo, .int fm_, .ref mor, .ref mbo, .ref mma, .ref mbm, .ref mso]))] := hw_3.symm
  clear hw_3; subst hw_3x
  refine g_if_eq X 21 dX11_teach_5 (by decide) (fun c5_6 => ?_) (fun c5_6 => ?_)
  · refine g_iconst X (-1) dX11_teach_21 (by decide) ?_
    exact g_iret X E dX11_teach_22 () (-1) (by first | rfl | (simp [c5_6]; done)) rfl
  · refine g_aload_n X dX11_teach_8 rfl ?_
    refine g_iload_n X dX11_teach_9 rfl ?_
    refine g_callVi X (c_X11_isClock V mm mtx mnu mrc mrw mrl mki mwa mle mno mtr mse mba mim msi mfo mor mbo mma mbm mso le_ po_ fa_ rcl_ rle_ n ls_ ba_ km_ si_ fm_ b (by omega) (by omega)) mo_X11_isClock kl_X11_134 [0] [1] rfl (by decide +kernel) rfl rfl (fun _ => Nat.le_of_ble_eq_true rfl) 0 11 rfl rfl (As := [.int b]) (st := []) (cs' := (0, 0)) rfl rfl rfl rfl dX11_teach_10 (fun r_11 u_7 hp_8 ws_10 hw_9 => ?_)
    obtain rfl : r_11 = (if okC n b then 1 else 0) := hp_8
    have hw_9x : ws_10 = [(mm, .inr (11, [.int le_, .ref mtx, .int po_, .ref mnu, .int fa_, .int rcl_, .int rle_, .ref mrc, .ref mrw, .ref mrl, .int (nI n), .ref mki, .ref mwa, .int ls_, .ref mle, .ref mno, .ref mtr, .ref mse, .ref mba, .int ba_, .ref mim, .int km_, .int si_, .ref msi, .ref mfo, .int fm_, .ref mor, .ref mbo, .ref mma, .ref mbm, .ref mso]))] := hw_9.symm
    clear hw_9; subst hw_9x
    refine g_if_eq X 21 dX11_teach_13 (by decide) (fun c13_12 => ?_) (fun c13_12 => ?_)
    · refine g_iconst X (-1) dX11_teach_21 (by decide) ?_
      exact g_iret X E dX11_teach_22 () (-1) (by first | rfl | (simp [c5_6, c13_12]; done)) rfl
    · refine g_iload_n X dX11_teach_16 rfl ?_
      refine g_iload_n X dX11_teach_17 rfl ?_
      refine g_icmp_ne X 23 dX11_teach_18 (by decide) (fun c18_13 => ?_) (fun c18_13 => ?_)
      · exact absurd ⟨(by have z := c5_6; by_cases q9 : okC n a; exact q9; rw [if_neg q9] at z; exact absurd rfl z), (by have z := c13_12; by_cases q9 : okC n b; exact q9; rw [if_neg q9] at z; exact absurd rfl z), c18_13⟩ hbad
      · refine g_iconst X (-1) dX11_teach_21 (by decide) ?_
        exact g_iret X E dX11_teach_22 () (-1) (by first | rfl | (simp [c5_6, c13_12, c18_13]; done)) rfl

set_option maxHeartbeats 4000000 in
set_option maxRecDepth 100000 in
theorem w_teach_no (V : gV) (mm : Nat) (mtx : Nat) (mnu : Nat) (mrc : Nat) (mrw : Nat) (mrl : Nat) (mki : Nat) (mwa : Nat) (mle : Nat) (mno : Nat) (mtr : Nat) (mse : Nat) (mba : Nat) (mim : Nat) (msi : Nat) (mfo : Nat) (mor : Nat) (mbo : Nat) (mma : Nat) (mbm : Nat) (mso : Nat) (le_ : Int32) (po_ : Int32) (fa_ : Int32) (rcl_ : Int32) (rle_ : Int32) (n : Nat) (ls_ : Int32) (ba_ : Int32) (km_ : Int32) (si_ : Int32) (fm_ : Int32) (k : Nat → Int32) (day : Int32) (w : Nat → Int32) (g : Nat → Int32) (a : Nat) (b : Nat) (hn : n ≤ 7) (h1n : 1 ≤ n) (hab : a < n ∧ b < n ∧ a ≠ b) (hcan : canF (k b) day = 0) : Ki V yX11_teach cX11_teach 3 .int ({ frames := 2, cells := 0, slots := 0, locals := 43 }) [.ref mm, .int (nI a), .int (nI b)] [(mm, .inr (11, [.int le_, .ref mtx, .int po_, .ref mnu, .int fa_, .int rcl_, .int rle_, .ref mrc, .ref mrw, .ref mrl, .int (nI n), .ref mki, .ref mwa, .int ls_, .ref mle, .ref mno, .ref mtr, .ref mse, .ref mba, .int ba_, .ref mim, .int km_, .int si_, .ref msi, .ref mfo, .int fm_, .ref mor, .ref mbo, .ref mma, .ref mbm, .ref mso])), (mki, .inl (V.2.2.1, 7, .inl k)), (mno, .inl (V.2.2.1, 15, .inl (stF day w g)))] (fun (r : Int32) (u : Unit) => r = -2) (fun u => [(mm, .inr (11, [.int le_, .ref mtx, .int po_, .ref mnu, .int fa_, .int rcl_, .int rle_, .ref mrc, .ref mrw, .ref mrl, .int (nI n), .ref mki, .ref mwa, .int ls_, .ref mle, .ref mno, .ref mtr, .ref mse, .ref mba, .int ba_, .ref mim, .int km_, .int si_, .ref msi, .ref mfo, .int fm_, .ref mor, .ref mbo, .ref mma, .ref mbm, .ref mso])), (mki, .inl (V.2.2.1, 7, .inl k)), (mno, .inl (V.2.2.1, 15, .inl (stF day w g)))]) := by
  refine Ki.of [some (.ref mm), some (.int (nI a)), some (.int (nI b))] (by decide) (Nat.le_of_ble_eq_true rfl) rfl rfl ?_
  intro Z X E
  have X : gX V Z RX11 cX11_teach 3 ({ frames := 2, cells := 0, slots := 0, locals := 43 }) := X
  refine g_aload_n X dX11_teach_0 rfl ?_
  refine g_iload_n X dX11_teach_1 rfl ?_
  refine g_callVi X (c_X11_isClock V mm mtx mnu mrc mrw mrl mki mwa mle mno mtr mse mba mim msi mfo mor mbo mma mbm mso le_ po_ fa_ rcl_ rle_ n ls_ ba_ km_ si_ fm_ (nI a) (by omega) (by omega)) mo_X11_isClock kl_X11_134 [0] [1, 0, 0] rfl (by decide +kernel) rfl rfl (fun _ => Nat.le_of_ble_eq_true rfl) 0 11 rfl rfl (As := [.int (nI a)]) (st := []) (cs' := (0, 0)) rfl rfl rfl rfl dX11_teach_2 (fun r_5 u_1 hp_2 ws_4 hw_3 => ?_)
  obtain rfl : r_5 = (if okC n (nI a) then 1 else 0) := hp_2
  have hw_3x : ws_4 = [(mm, .inr (11, [.int le_, .ref mtx, .int po_, .ref mnu, .int fa_, .int rcl_, .int rle_, .ref mrc, .ref mrw, .ref mrl, .int (nI n), .ref mki, .ref mwa, .int ls_, .ref mle, .ref mno, .ref mtr, .ref mse, .ref mba, .int ba_, .ref mim, .int km_, .int si_, .ref msi, .ref mfo, .int fm_, .ref mor, .ref mbo, .ref mma, .ref mbm, .ref mso])), (mki, .inl (V.2.2.1, 7, .inl k)), (mno, .inl (V.2.2.1, 15, .inl (stF day w g)))] := hw_3.symm
  clear hw_3; subst hw_3x
  refine g_if_eq X 21 dX11_teach_5 (by decide) (fun c5_6 => absurd c5_6 (by rw [if_pos (okC_nI hab.1 (by omega))]; decide)) (fun c5_6 => ?_)
  refine g_aload_n X dX11_teach_8 rfl ?_
  refine g_iload_n X dX11_teach_9 rfl ?_
  refine g_callVi X (c_X11_isClock V mm mtx mnu mrc mrw mrl mki mwa mle mno mtr mse mba mim msi mfo mor mbo mma mbm mso le_ po_ fa_ rcl_ rle_ n ls_ ba_ km_ si_ fm_ (nI b) (by omega) (by omega)) mo_X11_isClock kl_X11_134 [0] [1, 0, 0] rfl (by decide +kernel) rfl rfl (fun _ => Nat.le_of_ble_eq_true rfl) 0 11 rfl rfl (As := [.int (nI b)]) (st := []) (cs' := (0, 0)) rfl rfl rfl rfl dX11_teach_10 (fun r_11 u_7 hp_8 ws_10 hw_9 => ?_)
  obtain rfl : r_11 = (if okC n (nI b) then 1 else 0) := hp_8
  have hw_9x : ws_10 = [(mm, .inr (11, [.int le_, .ref mtx, .int po_, .ref mnu, .int fa_, .int rcl_, .int rle_, .ref mrc, .ref mrw, .ref mrl, .int (nI n), .ref mki, .ref mwa, .int ls_, .ref mle, .ref mno, .ref mtr, .ref mse, .ref mba, .int ba_, .ref mim, .int km_, .int si_, .ref msi, .ref mfo, .int fm_, .ref mor, .ref mbo, .ref mma, .ref mbm, .ref mso])), (mki, .inl (V.2.2.1, 7, .inl k)), (mno, .inl (V.2.2.1, 15, .inl (stF day w g)))] := hw_9.symm
  clear hw_9; subst hw_9x
  refine g_if_eq X 21 dX11_teach_13 (by decide) (fun c13_12 => absurd c13_12 (by rw [if_pos (okC_nI hab.2.1 (by omega))]; decide)) (fun c13_12 => ?_)
  refine g_iload_n X dX11_teach_16 rfl ?_
  refine g_iload_n X dX11_teach_17 rfl ?_
  refine g_icmp_ne X 23 dX11_teach_18 (by decide) (fun c18_13 => ?_) (fun c18_13 => absurd c18_13 (tne (a := a) (b := b) (by omega) (by omega) (by omega)))
  refine g_aload_n X dX11_teach_23 rfl ?_
  refine g_aload_n X dX11_teach_24 rfl ?_
  refine g_get X uwX11 0 rfl rfl 15 (by decide) kl_X11_34 rfl rfl gwX11 dX11_teach_25 ?_
  refine g_iload_n X dX11_teach_28 rfl ?_
  refine g_callVi X (c_X11_isTaught V mm mtx mnu mrc mrw mrl mki mwa mle mno mtr mse mba mim msi mfo mor mbo mma mbm mso le_ po_ fa_ rcl_ rle_ (nI n) ls_ ba_ km_ si_ fm_ k day w g mno b (by omega)) mo_X11_isTaught kl_X11_144 [0, 1, 2] [1, 2, 3] rfl (by decide +kernel) rfl rfl (fun _ => Nat.le_of_ble_eq_true rfl) 0 11 rfl rfl (As := [.ref mno, .int (nI b)]) (st := []) (cs' := (0, 0)) rfl rfl rfl rfl dX11_teach_29 (fun r_18 u_14 hp_15 ws_17 hw_16 => ?_)
  obtain rfl : r_18 = canF (k b) day := hp_15
  have hw_16x : ws_17 = [(mm, .inr (11, [.int le_, .ref mtx, .int po_, .ref mnu, .int fa_, .int rcl_, .int rle_, .ref mrc, .ref mrw, .ref mrl, .int (nI n), .ref mki, .ref mwa, .int ls_, .ref mle, .ref mno, .ref mtr, .ref mse, .ref mba, .int ba_, .ref mim, .int km_, .int si_, .ref msi, .ref mfo, .int fm_, .ref mor, .ref mbo, .ref mma, .ref mbm, .ref mso])), (mki, .inl (V.2.2.1, 7, .inl k)), (mno, .inl (V.2.2.1, 15, .inl (stF day w g)))] := hw_16.symm
  clear hw_16; subst hw_16x
  refine g_if_ne X 38 dX11_teach_32 (by decide) (fun c32_19 => absurd hcan c32_19) (fun c32_19 => ?_)
  refine g_bipush X (-2) dX11_teach_35 (by decide) ?_
  exact g_iret X E dX11_teach_37 () (-2) (by first | rfl | (simp [c5_6, c13_12, c18_13, c32_19]; done)) rfl

set_option maxHeartbeats 4000000 in
set_option maxRecDepth 100000 in
theorem w_teach_ok (V : gV) (mm : Nat) (mtx : Nat) (mnu : Nat) (mrc : Nat) (mrw : Nat) (mrl : Nat) (mki : Nat) (mwa : Nat) (mle : Nat) (mno : Nat) (mtr : Nat) (mse : Nat) (mba : Nat) (mim : Nat) (msi : Nat) (mfo : Nat) (mor : Nat) (mbo : Nat) (mma : Nat) (mbm : Nat) (mso : Nat) (le_ : Int32) (po_ : Int32) (fa_ : Int32) (rcl_ : Int32) (rle_ : Int32) (n : Nat) (ls_ : Int32) (q : Nat) (km_ : Int32) (si_ : Int32) (fm_ : Int32) (k : Nat → Int32) (day : Int32) (w : Nat → Int32) (g : Nat → Int32) (zd : Nat → Int32) (zw : Nat → Nat → Int32) (zg : Nat → Nat → Int32) (a : Nat) (b : Nat) (hn : n ≤ 7) (h1n : 1 ≤ n) (hab : a < n ∧ b < n ∧ a ≠ b) (hq : q ≤ 8) (hB : Bd n w) (hcan : ¬ canF (k b) day = 0) : Ki V yX11_teach cX11_teach 3 .int ({ frames := 2, cells := 0, slots := 0, locals := 47 }) [.ref mm, .int (nI a), .int (nI b)] [(mm, .inr (11, [.int le_, .ref mtx, .int po_, .ref mnu, .int fa_, .int rcl_, .int rle_, .ref mrc, .ref mrw, .ref mrl, .int (nI n), .ref mki, .ref mwa, .int ls_, .ref mle, .ref mno, .ref mtr, .ref mse, .ref mba, .int (nI q), .ref mim, .int km_, .int si_, .ref msi, .ref mfo, .int fm_, .ref mor, .ref mbo, .ref mma, .ref mbm, .ref mso])), (mki, .inl (V.2.2.1, 7, .inl k)), (mno, .inl (V.2.2.1, 15, .inl (stF day w g))), (mba, .inl (V.2.2.1, 120, .inl (bkF zd zw zg)))] (fun (r : Int32) (u : Unit) => r = learnF k day a b w b + 600) (fun u => [(mm, .inr (11, [.int le_, .ref mtx, .int po_, .ref mnu, .int fa_, .int rcl_, .int rle_, .ref mrc, .ref mrw, .ref mrl, .int (nI n), .ref mki, .ref mwa, .int ls_, .ref mle, .ref mno, .ref mtr, .ref mse, .ref mba, .int (nI (min 8 (q + 1))), .ref mim, .int km_, .int si_, .ref msi, .ref mfo, .int fm_, .ref mor, .ref mbo, .ref mma, .ref mbm, .ref mso])), (mki, .inl (V.2.2.1, 7, .inl k)), (mno, .inl (V.2.2.1, 15, .inl (stF day (learnF k day a b w) g))), (mba, .inl (V.2.2.1, 120, .inl (bkF (pushF q day zd) (pushF q w zw) (pushF q g zg))))]) := by
  refine Ki.of [some (.ref mm), some (.int (nI a)), some (.int (nI b))] (by decide) (Nat.le_of_ble_eq_true rfl) rfl rfl ?_
  intro Z X E
  have X : gX V Z RX11 cX11_teach 3 ({ frames := 2, cells := 0, slots := 0, locals := 47 }) := X
  refine g_aload_n X dX11_teach_0 rfl ?_
  refine g_iload_n X dX11_teach_1 rfl ?_
  refine g_callVi X (c_X11_isClock V mm mtx mnu mrc mrw mrl mki mwa mle mno mtr mse mba mim msi mfo mor mbo mma mbm mso le_ po_ fa_ rcl_ rle_ n ls_ (nI q) km_ si_ fm_ (nI a) (by omega) (by omega)) mo_X11_isClock kl_X11_134 [0] [1, 0, 0, 0] rfl (by decide +kernel) rfl rfl (fun _ => Nat.le_of_ble_eq_true rfl) 0 11 rfl rfl (As := [.int (nI a)]) (st := []) (cs' := (0, 0)) rfl rfl rfl rfl dX11_teach_2 (fun r_5 u_1 hp_2 ws_4 hw_3 => ?_)
  obtain rfl : r_5 = (if okC n (nI a) then 1 else 0) := hp_2
  have hw_3x : ws_4 = [(mm, .inr (11, [.int le_, .ref mtx, .int po_, .ref mnu, .int fa_, .int rcl_, .int rle_, .ref mrc, .ref mrw, .ref mrl, .int (nI n), .ref mki, .ref mwa, .int ls_, .ref mle, .ref mno, .ref mtr, .ref mse, .ref mba, .int (nI q), .ref mim, .int km_, .int si_, .ref msi, .ref mfo, .int fm_, .ref mor, .ref mbo, .ref mma, .ref mbm, .ref mso])), (mki, .inl (V.2.2.1, 7, .inl k)), (mno, .inl (V.2.2.1, 15, .inl (stF day w g))), (mba, .inl (V.2.2.1, 120, .inl (bkF zd zw zg)))] := hw_3.symm
  clear hw_3; subst hw_3x
  refine g_if_eq X 21 dX11_teach_5 (by decide) (fun c5_6 => absurd c5_6 (by rw [if_pos (okC_nI hab.1 (by omega))]; decide)) (fun c5_6 => ?_)
  refine g_aload_n X dX11_teach_8 rfl ?_
  refine g_iload_n X dX11_teach_9 rfl ?_
  refine g_callVi X (c_X11_isClock V mm mtx mnu mrc mrw mrl mki mwa mle mno mtr mse mba mim msi mfo mor mbo mma mbm mso le_ po_ fa_ rcl_ rle_ n ls_ (nI q) km_ si_ fm_ (nI b) (by omega) (by omega)) mo_X11_isClock kl_X11_134 [0] [1, 0, 0, 0] rfl (by decide +kernel) rfl rfl (fun _ => Nat.le_of_ble_eq_true rfl) 0 11 rfl rfl (As := [.int (nI b)]) (st := []) (cs' := (0, 0)) rfl rfl rfl rfl dX11_teach_10 (fun r_11 u_7 hp_8 ws_10 hw_9 => ?_)
  obtain rfl : r_11 = (if okC n (nI b) then 1 else 0) := hp_8
  have hw_9x : ws_10 = [(mm, .inr (11, [.int le_, .ref mtx, .int po_, .ref mnu, .int fa_, .int rcl_, .int rle_, .ref mrc, .ref mrw, .ref mrl, .int (nI n), .ref mki, .ref mwa, .int ls_, .ref mle, .ref mno, .ref mtr, .ref mse, .ref mba, .int (nI q), .ref mim, .int km_, .int si_, .ref msi, .ref mfo, .int fm_, .ref mor, .ref mbo, .ref mma, .ref mbm, .ref mso])), (mki, .inl (V.2.2.1, 7, .inl k)), (mno, .inl (V.2.2.1, 15, .inl (stF day w g))), (mba, .inl (V.2.2.1, 120, .inl (bkF zd zw zg)))] := hw_9.symm
  clear hw_9; subst hw_9x
  refine g_if_eq X 21 dX11_teach_13 (by decide) (fun c13_12 => absurd c13_12 (by rw [if_pos (okC_nI hab.2.1 (by omega))]; decide)) (fun c13_12 => ?_)
  refine g_iload_n X dX11_teach_16 rfl ?_
  refine g_iload_n X dX11_teach_17 rfl ?_
  refine g_icmp_ne X 23 dX11_teach_18 (by decide) (fun c18_13 => ?_) (fun c18_13 => absurd c18_13 (tne (a := a) (b := b) (by omega) (by omega) (by omega)))
  refine g_aload_n X dX11_teach_23 rfl ?_
  refine g_aload_n X dX11_teach_24 rfl ?_
  refine g_get X uwX11 0 rfl rfl 15 (by decide) kl_X11_34 rfl rfl gwX11 dX11_teach_25 ?_
  refine g_iload_n X dX11_teach_28 rfl ?_
  refine g_callVi X (c_X11_isTaught V mm mtx mnu mrc mrw mrl mki mwa mle mno mtr mse mba mim msi mfo mor mbo mma mbm mso le_ po_ fa_ rcl_ rle_ (nI n) ls_ (nI q) km_ si_ fm_ k day w g mno b (by omega)) mo_X11_isTaught kl_X11_144 [0, 1, 2] [1, 2, 3, 0] rfl (by decide +kernel) rfl rfl (fun _ => Nat.le_of_ble_eq_true rfl) 0 11 rfl rfl (As := [.ref mno, .int (nI b)]) (st := []) (cs' := (0, 0)) rfl rfl rfl rfl dX11_teach_29 (fun r_18 u_14 hp_15 ws_17 hw_16 => ?_)
  obtain rfl : r_18 = canF (k b) day := hp_15
  have hw_16x : ws_17 = [(mm, .inr (11, [.int le_, .ref mtx, .int po_, .ref mnu, .int fa_, .int rcl_, .int rle_, .ref mrc, .ref mrw, .ref mrl, .int (nI n), .ref mki, .ref mwa, .int ls_, .ref mle, .ref mno, .ref mtr, .ref mse, .ref mba, .int (nI q), .ref mim, .int km_, .int si_, .ref msi, .ref mfo, .int fm_, .ref mor, .ref mbo, .ref mma, .ref mbm, .ref mso])), (mki, .inl (V.2.2.1, 7, .inl k)), (mno, .inl (V.2.2.1, 15, .inl (stF day w g))), (mba, .inl (V.2.2.1, 120, .inl (bkF zd zw zg)))] := hw_16.symm
  clear hw_16; subst hw_16x
  refine g_if_ne X 38 dX11_teach_32 (by decide) (fun c32_19 => ?_) (fun c32_19 => absurd c32_19 hcan)
  refine g_aload_n X dX11_teach_38 rfl ?_
  refine g_callVv X (c_X11_note V mm mtx mnu mrc mrw mrl mki mwa mle mno mtr mse mba mim msi mfo mor mbo mma mbm mso le_ po_ fa_ rcl_ rle_ (nI n) ls_ q km_ si_ fm_ day w g zd zw zg (by omega)) mo_X11_note kl_X11_169 [0, 2, 3] [1, 0, 2, 3] rfl (by decide +kernel) rfl rfl (fun _ => Nat.le_of_ble_eq_true rfl) 0 11 rfl rfl (As := []) (st := []) (cs' := (0, 0)) rfl rfl rfl rfl dX11_teach_39 (fun u_20 hp_21 ws_23 hw_22 => ?_)
  have hw_22x : ws_23 = [(mm, .inr (11, [.int le_, .ref mtx, .int po_, .ref mnu, .int fa_, .int rcl_, .int rle_, .ref mrc, .ref mrw, .ref mrl, .int (nI n), .ref mki, .ref mwa, .int ls_, .ref mle, .ref mno, .ref mtr, .ref mse, .ref mba, .int (nI (min 8 (q + 1))), .ref mim, .int km_, .int si_, .ref msi, .ref mfo, .int fm_, .ref mor, .ref mbo, .ref mma, .ref mbm, .ref mso])), (mki, .inl (V.2.2.1, 7, .inl k)), (mno, .inl (V.2.2.1, 15, .inl (stF day w g))), (mba, .inl (V.2.2.1, 120, .inl (bkF (pushF q day zd) (pushF q w zw) (pushF q g zg))))] := hw_22.symm
  clear hw_22; subst hw_22x
  refine g_aload_n X dX11_teach_42 rfl ?_
  refine g_aload_n X dX11_teach_43 rfl ?_
  refine g_get X uwX11 0 rfl rfl 15 (by decide) kl_X11_34 rfl rfl gwX11 dX11_teach_44 ?_
  refine g_iload_n X dX11_teach_47 rfl ?_
  refine g_iload_n X dX11_teach_48 rfl ?_
  refine g_callVv X (c_X11_teachOn V mm mtx mnu mrc mrw mrl mki mwa mle mno mtr mse mba mim msi mfo mor mbo mma mbm mso le_ po_ fa_ rcl_ rle_ n ls_ (nI (min 8 (q + 1))) km_ si_ fm_ k day w g mno a b (by omega) (by omega) (by omega) (by omega)) mo_X11_teachOn kl_X11_154 [0, 1, 2] [1, 2, 3, 0] rfl (by decide +kernel) rfl rfl (fun _ => Nat.le_of_ble_eq_true rfl) 0 11 rfl rfl (As := [.ref mno, .int (nI a), .int (nI b)]) (st := []) (cs' := (0, 0)) rfl rfl rfl rfl dX11_teach_49 (fun nw_25 hp_26 ws_28 hw_27 => ?_)
  obtain rfl : nw_25 = learnF k day a b w := hp_26
  have hw_27x : ws_28 = [(mm, .inr (11, [.int le_, .ref mtx, .int po_, .ref mnu, .int fa_, .int rcl_, .int rle_, .ref mrc, .ref mrw, .ref mrl, .int (nI n), .ref mki, .ref mwa, .int ls_, .ref mle, .ref mno, .ref mtr, .ref mse, .ref mba, .int (nI (min 8 (q + 1))), .ref mim, .int km_, .int si_, .ref msi, .ref mfo, .int fm_, .ref mor, .ref mbo, .ref mma, .ref mbm, .ref mso])), (mki, .inl (V.2.2.1, 7, .inl k)), (mno, .inl (V.2.2.1, 15, .inl (stF day (learnF k day a b w) g))), (mba, .inl (V.2.2.1, 120, .inl (bkF (pushF q day zd) (pushF q w zw) (pushF q g zg))))] := hw_27.symm
  clear hw_27; subst hw_27x
  refine g_aload_n X dX11_teach_52 rfl ?_
  refine g_get X uwX11 0 rfl rfl 15 (by decide) kl_X11_34 rfl rfl gwX11 dX11_teach_53 ?_
  refine g_iconst X (1) dX11_teach_56 (by decide) ?_
  refine g_iload_n X dX11_teach_57 rfl ?_
  refine g_iadd X dX11_teach_58 ?_
  refine g_toe (x' := nI (1 + b)) (nI_add' rfl rfl) ?_
  refine g_iald' X 2 rfl (i := (1 + b)) rfl (by omega) (by omega) dX11_teach_59 ?_
  refine g_toe (x' := (learnF k day a b w) b) (stF_w _ _ _ b (by omega)) ?_
  refine g_sipush X (600) dX11_teach_60 (by decide) ?_
  refine g_iadd X dX11_teach_63 ?_
  exact g_iret X E dX11_teach_64 () (((learnF k day a b w) b) + 600) (by first | rfl | (simp [c5_6, c13_12, c18_13, c32_19]; done)) rfl

set_option maxHeartbeats 4000000 in
set_option maxRecDepth 100000 in
theorem w_set_bad (V : gV) (mm : Nat) (mtx : Nat) (mnu : Nat) (mrc : Nat) (mrw : Nat) (mrl : Nat) (mki : Nat) (mwa : Nat) (mle : Nat) (mno : Nat) (mtr : Nat) (mse : Nat) (mba : Nat) (mim : Nat) (msi : Nat) (mfo : Nat) (mor : Nat) (mbo : Nat) (mma : Nat) (mbm : Nat) (mso : Nat) (le_ : Int32) (po_ : Int32) (fa_ : Int32) (rcl_ : Int32) (rle_ : Int32) (n : Nat) (ls_ : Int32) (ba_ : Int32) (km_ : Int32) (si_ : Int32) (fm_ : Int32) (c : Int32) (hn : n ≤ 7) (h1n : 1 ≤ n) (hbad : ¬ okC n c) : Ki V yX11_set cX11_set 3 .int ({ frames := 2, cells := 0, slots := 0, locals := 43 }) [.ref mm, .int c] [(mm, .inr (11, [.int le_, .ref mtx, .int po_, .ref mnu, .int fa_, .int rcl_, .int rle_, .ref mrc, .ref mrw, .ref mrl, .int (nI n), .ref mki, .ref mwa, .int ls_, .ref mle, .ref mno, .ref mtr, .ref mse, .ref mba, .int ba_, .ref mim, .int km_, .int si_, .ref msi, .ref mfo, .int fm_, .ref mor, .ref mbo, .ref mma, .ref mbm, .ref mso]))] (fun (r : Int32) (u : Unit) => r = -1) (fun u => [(mm, .inr (11, [.int le_, .ref mtx, .int po_, .ref mnu, .int fa_, .int rcl_, .int rle_, .ref mrc, .ref mrw, .ref mrl, .int (nI n), .ref mki, .ref mwa, .int ls_, .ref mle, .ref mno, .ref mtr, .ref mse, .ref mba, .int ba_, .ref mim, .int km_, .int si_, .ref msi, .ref mfo, .int fm_, .ref mor, .ref mbo, .ref mma, .ref mbm, .ref mso]))]) := by
  refine Ki.of [some (.ref mm), some (.int c), none] (by decide) (Nat.le_of_ble_eq_true rfl) rfl rfl ?_
  intro Z X E
  have X : gX V Z RX11 cX11_set 3 ({ frames := 2, cells := 0, slots := 0, locals := 43 }) := X
  refine g_aload_n X dX11_set_0 rfl ?_
  refine g_iload_n X dX11_set_1 rfl ?_
  refine g_callVi X (c_X11_isClock V mm mtx mnu mrc mrw mrl mki mwa mle mno mtr mse mba mim msi mfo mor mbo mma mbm mso le_ po_ fa_ rcl_ rle_ n ls_ ba_ km_ si_ fm_ c (by omega) (by omega)) mo_X11_isClock kl_X11_134 [0] [1] rfl (by decide +kernel) rfl rfl (fun _ => Nat.le_of_ble_eq_true rfl) 0 11 rfl rfl (As := [.int c]) (st := []) (cs' := (0, 0)) rfl rfl rfl rfl dX11_set_2 (fun r_5 u_1 hp_2 ws_4 hw_3 => ?_)
  obtain rfl : r_5 = (if okC n c then 1 else 0) := hp_2
  have hw_3x : ws_4 = [(mm, .inr (11, [.int le_, .ref mtx, .int po_, .ref mnu, .int fa_, .int rcl_, .int rle_, .ref mrc, .ref mrw, .ref mrl, .int (nI n), .ref mki, .ref mwa, .int ls_, .ref mle, .ref mno, .ref mtr, .ref mse, .ref mba, .int ba_, .ref mim, .int km_, .int si_, .ref msi, .ref mfo, .int fm_, .ref mor, .ref mbo, .ref mma, .ref mbm, .ref mso]))] := hw_3.symm
  clear hw_3; subst hw_3x
  refine g_if_ne X 10 dX11_set_5 (by decide) (fun c5_6 => absurd (by rw [if_neg hbad]) c5_6) (fun c5_6 => ?_)
  refine g_iconst X (-1) dX11_set_8 (by decide) ?_
  exact g_iret X E dX11_set_9 () (-1) (by first | rfl | (simp [c5_6]; done)) rfl

set_option maxHeartbeats 4000000 in
set_option maxRecDepth 100000 in
theorem w_set_ok (V : gV) (mm : Nat) (mtx : Nat) (mnu : Nat) (mrc : Nat) (mrw : Nat) (mrl : Nat) (mki : Nat) (mwa : Nat) (mle : Nat) (mno : Nat) (mtr : Nat) (mse : Nat) (mba : Nat) (mim : Nat) (msi : Nat) (mfo : Nat) (mor : Nat) (mbo : Nat) (mma : Nat) (mbm : Nat) (mso : Nat) (le_ : Int32) (po_ : Int32) (fa_ : Int32) (rcl_ : Int32) (rle_ : Int32) (n : Nat) (ls_ : Int32) (q : Nat) (km_ : Int32) (si_ : Int32) (fm_ : Int32) (day : Int32) (w : Nat → Int32) (g : Nat → Int32) (zd : Nat → Int32) (zw : Nat → Nat → Int32) (zg : Nat → Nat → Int32) (c : Nat) (hn : n ≤ 7) (h1n : 1 ≤ n) (hc : c < n) (hq : q ≤ 8) : Ki V yX11_set cX11_set 3 .int ({ frames := 2, cells := 0, slots := 0, locals := 45 }) [.ref mm, .int (nI c)] [(mm, .inr (11, [.int le_, .ref mtx, .int po_, .ref mnu, .int fa_, .int rcl_, .int rle_, .ref mrc, .ref mrw, .ref mrl, .int (nI n), .ref mki, .ref mwa, .int ls_, .ref mle, .ref mno, .ref mtr, .ref mse, .ref mba, .int (nI q), .ref mim, .int km_, .int si_, .ref msi, .ref mfo, .int fm_, .ref mor, .ref mbo, .ref mma, .ref mbm, .ref mso])), (mno, .inl (V.2.2.1, 15, .inl (stF day w g))), (mba, .inl (V.2.2.1, 120, .inl (bkF zd zw zg)))] (fun (r : Int32) (u : Unit) => r = w c + 600) (fun u => [(mm, .inr (11, [.int le_, .ref mtx, .int po_, .ref mnu, .int fa_, .int rcl_, .int rle_, .ref mrc, .ref mrw, .ref mrl, .int (nI n), .ref mki, .ref mwa, .int ls_, .ref mle, .ref mno, .ref mtr, .ref mse, .ref mba, .int (nI (min 8 (q + 1))), .ref mim, .int km_, .int si_, .ref msi, .ref mfo, .int fm_, .ref mor, .ref mbo, .ref mma, .ref mbm, .ref mso])), (mno, .inl (V.2.2.1, 15, .inl (stF day (upd w c (clampF 0)) g))), (mba, .inl (V.2.2.1, 120, .inl (bkF (pushF q day zd) (pushF q w zw) (pushF q g zg))))]) := by
  refine Ki.of [some (.ref mm), some (.int (nI c)), none] (by decide) (Nat.le_of_ble_eq_true rfl) rfl rfl ?_
  intro Z X E
  have X : gX V Z RX11 cX11_set 3 ({ frames := 2, cells := 0, slots := 0, locals := 45 }) := X
  refine g_aload_n X dX11_set_0 rfl ?_
  refine g_iload_n X dX11_set_1 rfl ?_
  refine g_callVi X (c_X11_isClock V mm mtx mnu mrc mrw mrl mki mwa mle mno mtr mse mba mim msi mfo mor mbo mma mbm mso le_ po_ fa_ rcl_ rle_ n ls_ (nI q) km_ si_ fm_ (nI c) (by omega) (by omega)) mo_X11_isClock kl_X11_134 [0] [1, 0, 0] rfl (by decide +kernel) rfl rfl (fun _ => Nat.le_of_ble_eq_true rfl) 0 11 rfl rfl (As := [.int (nI c)]) (st := []) (cs' := (0, 0)) rfl rfl rfl rfl dX11_set_2 (fun r_5 u_1 hp_2 ws_4 hw_3 => ?_)
  obtain rfl : r_5 = (if okC n (nI c) then 1 else 0) := hp_2
  have hw_3x : ws_4 = [(mm, .inr (11, [.int le_, .ref mtx, .int po_, .ref mnu, .int fa_, .int rcl_, .int rle_, .ref mrc, .ref mrw, .ref mrl, .int (nI n), .ref mki, .ref mwa, .int ls_, .ref mle, .ref mno, .ref mtr, .ref mse, .ref mba, .int (nI q), .ref mim, .int km_, .int si_, .ref msi, .ref mfo, .int fm_, .ref mor, .ref mbo, .ref mma, .ref mbm, .ref mso])), (mno, .inl (V.2.2.1, 15, .inl (stF day w g))), (mba, .inl (V.2.2.1, 120, .inl (bkF zd zw zg)))] := hw_3.symm
  clear hw_3; subst hw_3x
  refine g_if_ne X 10 dX11_set_5 (by decide) (fun c5_6 => ?_) (fun c5_6 => absurd c5_6 (by rw [if_pos (okC_nI hc (by omega))]; decide))
  refine g_aload_n X dX11_set_10 rfl ?_
  refine g_callVv X (c_X11_note V mm mtx mnu mrc mrw mrl mki mwa mle mno mtr mse mba mim msi mfo mor mbo mma mbm mso le_ po_ fa_ rcl_ rle_ (nI n) ls_ q km_ si_ fm_ day w g zd zw zg (by omega)) mo_X11_note kl_X11_169 [0, 1, 2] [1, 2, 3] rfl (by decide +kernel) rfl rfl (fun _ => Nat.le_of_ble_eq_true rfl) 0 11 rfl rfl (As := []) (st := []) (cs' := (0, 0)) rfl rfl rfl rfl dX11_set_11 (fun u_7 hp_8 ws_10 hw_9 => ?_)
  have hw_9x : ws_10 = [(mm, .inr (11, [.int le_, .ref mtx, .int po_, .ref mnu, .int fa_, .int rcl_, .int rle_, .ref mrc, .ref mrw, .ref mrl, .int (nI n), .ref mki, .ref mwa, .int ls_, .ref mle, .ref mno, .ref mtr, .ref mse, .ref mba, .int (nI (min 8 (q + 1))), .ref mim, .int km_, .int si_, .ref msi, .ref mfo, .int fm_, .ref mor, .ref mbo, .ref mma, .ref mbm, .ref mso])), (mno, .inl (V.2.2.1, 15, .inl (stF day w g))), (mba, .inl (V.2.2.1, 120, .inl (bkF (pushF q day zd) (pushF q w zw) (pushF q g zg))))] := hw_9.symm
  clear hw_9; subst hw_9x
  refine g_aload_n X dX11_set_14 rfl ?_
  refine g_get X uwX11 0 rfl rfl 15 (by decide) kl_X11_34 rfl rfl gwX11 dX11_set_15 ?_
  refine g_iconst X (1) dX11_set_18 (by decide) ?_
  refine g_iload_n X dX11_set_19 rfl ?_
  refine g_iadd X dX11_set_20 ?_
  refine g_toe (x' := nI (1 + c)) (nI_add' rfl rfl) ?_
  refine g_iald' X 1 rfl (i := (1 + c)) rfl (by omega) (by omega) dX11_set_21 ?_
  refine g_toe (x' := w c) (stF_w _ _ _ c (by omega)) ?_
  refine g_istore_n X (L' := [some (.ref mm), some (.int (nI c)), some (.int (w c))]) dX11_set_22 (by decide) rfl rfl ?_
  refine g_aload_n X dX11_set_23 rfl ?_
  refine g_get X uwX11 0 rfl rfl 15 (by decide) kl_X11_34 rfl rfl gwX11 dX11_set_24 ?_
  refine g_iconst X (1) dX11_set_27 (by decide) ?_
  refine g_iload_n X dX11_set_28 rfl ?_
  refine g_iadd X dX11_set_29 ?_
  refine g_toe (x' := nI (1 + c)) (nI_add' rfl rfl) ?_
  refine g_iconst X (0) dX11_set_30 (by decide) ?_
  refine g_iast' X 1 rfl (i := (1 + c)) rfl (by omega) (by omega) (ws' := [(mm, .inr (11, [.int le_, .ref mtx, .int po_, .ref mnu, .int fa_, .int rcl_, .int rle_, .ref mrc, .ref mrw, .ref mrl, .int (nI n), .ref mki, .ref mwa, .int ls_, .ref mle, .ref mno, .ref mtr, .ref mse, .ref mba, .int (nI (min 8 (q + 1))), .ref mim, .int km_, .int si_, .ref msi, .ref mfo, .int fm_, .ref mor, .ref mbo, .ref mma, .ref mbm, .ref mso])), (mno, .inl (V.2.2.1, 15, .inl (upd (stF day w g) (1 + c) 0))), (mba, .inl (V.2.2.1, 120, .inl (bkF (pushF q day zd) (pushF q w zw) (pushF q g zg))))]) rfl dX11_set_31 ?_
  refine g_arr 1 (stF day (upd w c 0) g) rfl (stF_uw _ _ _ _ c (by omega)) (ws' := [(mm, .inr (11, [.int le_, .ref mtx, .int po_, .ref mnu, .int fa_, .int rcl_, .int rle_, .ref mrc, .ref mrw, .ref mrl, .int (nI n), .ref mki, .ref mwa, .int ls_, .ref mle, .ref mno, .ref mtr, .ref mse, .ref mba, .int (nI (min 8 (q + 1))), .ref mim, .int km_, .int si_, .ref msi, .ref mfo, .int fm_, .ref mor, .ref mbo, .ref mma, .ref mbm, .ref mso])), (mno, .inl (V.2.2.1, 15, .inl (stF day (upd w c 0) g))), (mba, .inl (V.2.2.1, 120, .inl (bkF (pushF q day zd) (pushF q w zw) (pushF q g zg))))]) rfl ?_
  refine g_iload_n X dX11_set_32 rfl ?_
  refine g_sipush X (600) dX11_set_33 (by decide) ?_
  refine g_iadd X dX11_set_36 ?_
  exact g_iret X E dX11_set_37 () ((w c) + 600) (by first | rfl | (simp [c5_6]; done)) (by rw [show clampF 0 = 0 from by decide])

set_option maxHeartbeats 4000000 in
set_option maxRecDepth 100000 in
theorem w_oil_bad (V : gV) (mm : Nat) (mtx : Nat) (mnu : Nat) (mrc : Nat) (mrw : Nat) (mrl : Nat) (mki : Nat) (mwa : Nat) (mle : Nat) (mno : Nat) (mtr : Nat) (mse : Nat) (mba : Nat) (mim : Nat) (msi : Nat) (mfo : Nat) (mor : Nat) (mbo : Nat) (mma : Nat) (mbm : Nat) (mso : Nat) (le_ : Int32) (po_ : Int32) (fa_ : Int32) (rcl_ : Int32) (rle_ : Int32) (n : Nat) (ls_ : Int32) (ba_ : Int32) (km_ : Int32) (si_ : Int32) (fm_ : Int32) (c : Int32) (hn : n ≤ 7) (h1n : 1 ≤ n) (hbad : ¬ okC n c) : Ki V yX11_oil cX11_oil 2 .int ({ frames := 2, cells := 0, slots := 0, locals := 43 }) [.ref mm, .int c] [(mm, .inr (11, [.int le_, .ref mtx, .int po_, .ref mnu, .int fa_, .int rcl_, .int rle_, .ref mrc, .ref mrw, .ref mrl, .int (nI n), .ref mki, .ref mwa, .int ls_, .ref mle, .ref mno, .ref mtr, .ref mse, .ref mba, .int ba_, .ref mim, .int km_, .int si_, .ref msi, .ref mfo, .int fm_, .ref mor, .ref mbo, .ref mma, .ref mbm, .ref mso]))] (fun (r : Int32) (u : Unit) => r = -1) (fun u => [(mm, .inr (11, [.int le_, .ref mtx, .int po_, .ref mnu, .int fa_, .int rcl_, .int rle_, .ref mrc, .ref mrw, .ref mrl, .int (nI n), .ref mki, .ref mwa, .int ls_, .ref mle, .ref mno, .ref mtr, .ref mse, .ref mba, .int ba_, .ref mim, .int km_, .int si_, .ref msi, .ref mfo, .int fm_, .ref mor, .ref mbo, .ref mma, .ref mbm, .ref mso]))]) := by
  refine Ki.of [some (.ref mm), some (.int c)] (by decide) (Nat.le_of_ble_eq_true rfl) rfl rfl ?_
  intro Z X E
  have X : gX V Z RX11 cX11_oil 2 ({ frames := 2, cells := 0, slots := 0, locals := 43 }) := X
  refine g_aload_n X dX11_oil_0 rfl ?_
  refine g_iload_n X dX11_oil_1 rfl ?_
  refine g_callVi X (c_X11_isClock V mm mtx mnu mrc mrw mrl mki mwa mle mno mtr mse mba mim msi mfo mor mbo mma mbm mso le_ po_ fa_ rcl_ rle_ n ls_ ba_ km_ si_ fm_ c (by omega) (by omega)) mo_X11_isClock kl_X11_134 [0] [1] rfl (by decide +kernel) rfl rfl (fun _ => Nat.le_of_ble_eq_true rfl) 0 11 rfl rfl (As := [.int c]) (st := []) (cs' := (0, 0)) rfl rfl rfl rfl dX11_oil_2 (fun r_5 u_1 hp_2 ws_4 hw_3 => ?_)
  obtain rfl : r_5 = (if okC n c then 1 else 0) := hp_2
  have hw_3x : ws_4 = [(mm, .inr (11, [.int le_, .ref mtx, .int po_, .ref mnu, .int fa_, .int rcl_, .int rle_, .ref mrc, .ref mrw, .ref mrl, .int (nI n), .ref mki, .ref mwa, .int ls_, .ref mle, .ref mno, .ref mtr, .ref mse, .ref mba, .int ba_, .ref mim, .int km_, .int si_, .ref msi, .ref mfo, .int fm_, .ref mor, .ref mbo, .ref mma, .ref mbm, .ref mso]))] := hw_3.symm
  clear hw_3; subst hw_3x
  refine g_if_ne X 10 dX11_oil_5 (by decide) (fun c5_6 => absurd (by rw [if_neg hbad]) c5_6) (fun c5_6 => ?_)
  refine g_iconst X (-1) dX11_oil_8 (by decide) ?_
  exact g_iret X E dX11_oil_9 () (-1) (by first | rfl | (simp [c5_6]; done)) rfl

set_option maxHeartbeats 4000000 in
set_option maxRecDepth 100000 in
theorem w_oil_no (V : gV) (mm : Nat) (mtx : Nat) (mnu : Nat) (mrc : Nat) (mrw : Nat) (mrl : Nat) (mki : Nat) (mwa : Nat) (mle : Nat) (mno : Nat) (mtr : Nat) (mse : Nat) (mba : Nat) (mim : Nat) (msi : Nat) (mfo : Nat) (mor : Nat) (mbo : Nat) (mma : Nat) (mbm : Nat) (mso : Nat) (le_ : Int32) (po_ : Int32) (fa_ : Int32) (rcl_ : Int32) (rle_ : Int32) (n : Nat) (ls_ : Int32) (ba_ : Int32) (km_ : Int32) (si_ : Int32) (fm_ : Int32) (day : Int32) (w : Nat → Int32) (g : Nat → Int32) (c : Nat) (hn : n ≤ 7) (h1n : 1 ≤ n) (hc : c < n) (hg : g c = 0) : Ki V yX11_oil cX11_oil 2 .int ({ frames := 2, cells := 0, slots := 0, locals := 43 }) [.ref mm, .int (nI c)] [(mm, .inr (11, [.int le_, .ref mtx, .int po_, .ref mnu, .int fa_, .int rcl_, .int rle_, .ref mrc, .ref mrw, .ref mrl, .int (nI n), .ref mki, .ref mwa, .int ls_, .ref mle, .ref mno, .ref mtr, .ref mse, .ref mba, .int ba_, .ref mim, .int km_, .int si_, .ref msi, .ref mfo, .int fm_, .ref mor, .ref mbo, .ref mma, .ref mbm, .ref mso])), (mno, .inl (V.2.2.1, 15, .inl (stF day w g)))] (fun (r : Int32) (u : Unit) => r = -2) (fun u => [(mm, .inr (11, [.int le_, .ref mtx, .int po_, .ref mnu, .int fa_, .int rcl_, .int rle_, .ref mrc, .ref mrw, .ref mrl, .int (nI n), .ref mki, .ref mwa, .int ls_, .ref mle, .ref mno, .ref mtr, .ref mse, .ref mba, .int ba_, .ref mim, .int km_, .int si_, .ref msi, .ref mfo, .int fm_, .ref mor, .ref mbo, .ref mma, .ref mbm, .ref mso])), (mno, .inl (V.2.2.1, 15, .inl (stF day w g)))]) := by
  refine Ki.of [some (.ref mm), some (.int (nI c))] (by decide) (Nat.le_of_ble_eq_true rfl) rfl rfl ?_
  intro Z X E
  have X : gX V Z RX11 cX11_oil 2 ({ frames := 2, cells := 0, slots := 0, locals := 43 }) := X
  refine g_aload_n X dX11_oil_0 rfl ?_
  refine g_iload_n X dX11_oil_1 rfl ?_
  refine g_callVi X (c_X11_isClock V mm mtx mnu mrc mrw mrl mki mwa mle mno mtr mse mba mim msi mfo mor mbo mma mbm mso le_ po_ fa_ rcl_ rle_ n ls_ ba_ km_ si_ fm_ (nI c) (by omega) (by omega)) mo_X11_isClock kl_X11_134 [0] [1, 0] rfl (by decide +kernel) rfl rfl (fun _ => Nat.le_of_ble_eq_true rfl) 0 11 rfl rfl (As := [.int (nI c)]) (st := []) (cs' := (0, 0)) rfl rfl rfl rfl dX11_oil_2 (fun r_5 u_1 hp_2 ws_4 hw_3 => ?_)
  obtain rfl : r_5 = (if okC n (nI c) then 1 else 0) := hp_2
  have hw_3x : ws_4 = [(mm, .inr (11, [.int le_, .ref mtx, .int po_, .ref mnu, .int fa_, .int rcl_, .int rle_, .ref mrc, .ref mrw, .ref mrl, .int (nI n), .ref mki, .ref mwa, .int ls_, .ref mle, .ref mno, .ref mtr, .ref mse, .ref mba, .int ba_, .ref mim, .int km_, .int si_, .ref msi, .ref mfo, .int fm_, .ref mor, .ref mbo, .ref mma, .ref mbm, .ref mso])), (mno, .inl (V.2.2.1, 15, .inl (stF day w g)))] := hw_3.symm
  clear hw_3; subst hw_3x
  refine g_if_ne X 10 dX11_oil_5 (by decide) (fun c5_6 => ?_) (fun c5_6 => absurd c5_6 (by rw [if_pos (okC_nI hc (by omega))]; decide))
  refine g_aload_n X dX11_oil_10 rfl ?_
  refine g_get X uwX11 0 rfl rfl 15 (by decide) kl_X11_34 rfl rfl gwX11 dX11_oil_11 ?_
  refine g_bipush X (8) dX11_oil_14 (by decide) ?_
  refine g_iload_n X dX11_oil_16 rfl ?_
  refine g_iadd X dX11_oil_17 ?_
  refine g_toe (x' := nI (8 + c)) (nI_add' rfl rfl) ?_
  refine g_iald' X 1 rfl (i := (8 + c)) rfl (by omega) (by omega) dX11_oil_18 ?_
  refine g_toe (x' := g c) (stF_g _ _ _ c) ?_
  refine g_if_ne X 25 dX11_oil_19 (by decide) (fun c19_7 => absurd hg c19_7) (fun c19_7 => ?_)
  refine g_bipush X (-2) dX11_oil_22 (by decide) ?_
  exact g_iret X E dX11_oil_24 () (-2) (by first | rfl | (simp [c5_6, c19_7]; done)) rfl

set_option maxHeartbeats 4000000 in
set_option maxRecDepth 100000 in
theorem w_oil_ok (V : gV) (mm : Nat) (mtx : Nat) (mnu : Nat) (mrc : Nat) (mrw : Nat) (mrl : Nat) (mki : Nat) (mwa : Nat) (mle : Nat) (mno : Nat) (mtr : Nat) (mse : Nat) (mba : Nat) (mim : Nat) (msi : Nat) (mfo : Nat) (mor : Nat) (mbo : Nat) (mma : Nat) (mbm : Nat) (mso : Nat) (le_ : Int32) (po_ : Int32) (fa_ : Int32) (rcl_ : Int32) (rle_ : Int32) (n : Nat) (ls_ : Int32) (q : Nat) (km_ : Int32) (si_ : Int32) (fm_ : Int32) (day : Int32) (w : Nat → Int32) (g : Nat → Int32) (zd : Nat → Int32) (zw : Nat → Nat → Int32) (zg : Nat → Nat → Int32) (c : Nat) (hn : n ≤ 7) (h1n : 1 ≤ n) (hc : c < n) (hq : q ≤ 8) (hg : ¬ g c = 0) : Ki V yX11_oil cX11_oil 2 .int ({ frames := 2, cells := 0, slots := 0, locals := 45 }) [.ref mm, .int (nI c)] [(mm, .inr (11, [.int le_, .ref mtx, .int po_, .ref mnu, .int fa_, .int rcl_, .int rle_, .ref mrc, .ref mrw, .ref mrl, .int (nI n), .ref mki, .ref mwa, .int ls_, .ref mle, .ref mno, .ref mtr, .ref mse, .ref mba, .int (nI q), .ref mim, .int km_, .int si_, .ref msi, .ref mfo, .int fm_, .ref mor, .ref mbo, .ref mma, .ref mbm, .ref mso])), (mno, .inl (V.2.2.1, 15, .inl (stF day w g))), (mba, .inl (V.2.2.1, 120, .inl (bkF zd zw zg)))] (fun (r : Int32) (u : Unit) => r = oilF (g c) + 10) (fun u => [(mm, .inr (11, [.int le_, .ref mtx, .int po_, .ref mnu, .int fa_, .int rcl_, .int rle_, .ref mrc, .ref mrw, .ref mrl, .int (nI n), .ref mki, .ref mwa, .int ls_, .ref mle, .ref mno, .ref mtr, .ref mse, .ref mba, .int (nI (min 8 (q + 1))), .ref mim, .int km_, .int si_, .ref msi, .ref mfo, .int fm_, .ref mor, .ref mbo, .ref mma, .ref mbm, .ref mso])), (mno, .inl (V.2.2.1, 15, .inl (stF day w (upd g c (oilF (g c)))))), (mba, .inl (V.2.2.1, 120, .inl (bkF (pushF q day zd) (pushF q w zw) (pushF q g zg))))]) := by
  refine Ki.of [some (.ref mm), some (.int (nI c))] (by decide) (Nat.le_of_ble_eq_true rfl) rfl rfl ?_
  intro Z X E
  have X : gX V Z RX11 cX11_oil 2 ({ frames := 2, cells := 0, slots := 0, locals := 45 }) := X
  refine g_aload_n X dX11_oil_0 rfl ?_
  refine g_iload_n X dX11_oil_1 rfl ?_
  refine g_callVi X (c_X11_isClock V mm mtx mnu mrc mrw mrl mki mwa mle mno mtr mse mba mim msi mfo mor mbo mma mbm mso le_ po_ fa_ rcl_ rle_ n ls_ (nI q) km_ si_ fm_ (nI c) (by omega) (by omega)) mo_X11_isClock kl_X11_134 [0] [1, 0, 0] rfl (by decide +kernel) rfl rfl (fun _ => Nat.le_of_ble_eq_true rfl) 0 11 rfl rfl (As := [.int (nI c)]) (st := []) (cs' := (0, 0)) rfl rfl rfl rfl dX11_oil_2 (fun r_5 u_1 hp_2 ws_4 hw_3 => ?_)
  obtain rfl : r_5 = (if okC n (nI c) then 1 else 0) := hp_2
  have hw_3x : ws_4 = [(mm, .inr (11, [.int le_, .ref mtx, .int po_, .ref mnu, .int fa_, .int rcl_, .int rle_, .ref mrc, .ref mrw, .ref mrl, .int (nI n), .ref mki, .ref mwa, .int ls_, .ref mle, .ref mno, .ref mtr, .ref mse, .ref mba, .int (nI q), .ref mim, .int km_, .int si_, .ref msi, .ref mfo, .int fm_, .ref mor, .ref mbo, .ref mma, .ref mbm, .ref mso])), (mno, .inl (V.2.2.1, 15, .inl (stF day w g))), (mba, .inl (V.2.2.1, 120, .inl (bkF zd zw zg)))] := hw_3.symm
  clear hw_3; subst hw_3x
  refine g_if_ne X 10 dX11_oil_5 (by decide) (fun c5_6 => ?_) (fun c5_6 => absurd c5_6 (by rw [if_pos (okC_nI hc (by omega))]; decide))
  refine g_aload_n X dX11_oil_10 rfl ?_
  refine g_get X uwX11 0 rfl rfl 15 (by decide) kl_X11_34 rfl rfl gwX11 dX11_oil_11 ?_
  refine g_bipush X (8) dX11_oil_14 (by decide) ?_
  refine g_iload_n X dX11_oil_16 rfl ?_
  refine g_iadd X dX11_oil_17 ?_
  refine g_toe (x' := nI (8 + c)) (nI_add' rfl rfl) ?_
  refine g_iald' X 1 rfl (i := (8 + c)) rfl (by omega) (by omega) dX11_oil_18 ?_
  refine g_toe (x' := g c) (stF_g _ _ _ c) ?_
  refine g_if_ne X 25 dX11_oil_19 (by decide) (fun c19_7 => ?_) (fun c19_7 => absurd c19_7 hg)
  refine g_aload_n X dX11_oil_25 rfl ?_
  refine g_callVv X (c_X11_note V mm mtx mnu mrc mrw mrl mki mwa mle mno mtr mse mba mim msi mfo mor mbo mma mbm mso le_ po_ fa_ rcl_ rle_ (nI n) ls_ q km_ si_ fm_ day w g zd zw zg (by omega)) mo_X11_note kl_X11_169 [0, 1, 2] [1, 2, 3] rfl (by decide +kernel) rfl rfl (fun _ => Nat.le_of_ble_eq_true rfl) 0 11 rfl rfl (As := []) (st := []) (cs' := (0, 0)) rfl rfl rfl rfl dX11_oil_26 (fun u_8 hp_9 ws_11 hw_10 => ?_)
  have hw_10x : ws_11 = [(mm, .inr (11, [.int le_, .ref mtx, .int po_, .ref mnu, .int fa_, .int rcl_, .int rle_, .ref mrc, .ref mrw, .ref mrl, .int (nI n), .ref mki, .ref mwa, .int ls_, .ref mle, .ref mno, .ref mtr, .ref mse, .ref mba, .int (nI (min 8 (q + 1))), .ref mim, .int km_, .int si_, .ref msi, .ref mfo, .int fm_, .ref mor, .ref mbo, .ref mma, .ref mbm, .ref mso])), (mno, .inl (V.2.2.1, 15, .inl (stF day w g))), (mba, .inl (V.2.2.1, 120, .inl (bkF (pushF q day zd) (pushF q w zw) (pushF q g zg))))] := hw_10.symm
  clear hw_10; subst hw_10x
  refine g_aload_n X dX11_oil_29 rfl ?_
  refine g_get X uwX11 0 rfl rfl 15 (by decide) kl_X11_34 rfl rfl gwX11 dX11_oil_30 ?_
  refine g_bipush X (8) dX11_oil_33 (by decide) ?_
  refine g_iload_n X dX11_oil_35 rfl ?_
  refine g_iadd X dX11_oil_36 ?_
  refine g_toe (x' := nI (8 + c)) (nI_add' rfl rfl) ?_
  refine g_dup2 X dX11_oil_37 rfl rfl ?_
  refine g_iald' X 1 rfl (i := (8 + c)) rfl (by omega) (by omega) dX11_oil_38 ?_
  refine g_toe (x' := g c) (stF_g _ _ _ c) ?_
  refine g_aload_n X dX11_oil_39 rfl ?_
  refine g_get X uwX11 0 rfl rfl 15 (by decide) kl_X11_34 rfl rfl gwX11 dX11_oil_40 ?_
  refine g_bipush X (8) dX11_oil_43 (by decide) ?_
  refine g_iload_n X dX11_oil_45 rfl ?_
  refine g_iadd X dX11_oil_46 ?_
  refine g_toe (x' := nI (8 + c)) (nI_add' rfl rfl) ?_
  refine g_iald' X 1 rfl (i := (8 + c)) rfl (by omega) (by omega) dX11_oil_47 ?_
  refine g_toe (x' := g c) (stF_g _ _ _ c) ?_
  refine g_if_le X 55 dX11_oil_48 (by decide) (fun c48_13 => ?_) (fun c48_13 => ?_)
  · have c48_13d := Int32.not_lt.mpr c48_13
    refine g_iconst X (1) dX11_oil_55 (by decide) ?_
    refine g_iadd X dX11_oil_56 ?_
    refine g_toe (x' := oilF (g c)) (oilM2 hg c48_13d) ?_
    refine g_iast' X 1 rfl (i := (8 + c)) rfl (by omega) (by omega) (ws' := [(mm, .inr (11, [.int le_, .ref mtx, .int po_, .ref mnu, .int fa_, .int rcl_, .int rle_, .ref mrc, .ref mrw, .ref mrl, .int (nI n), .ref mki, .ref mwa, .int ls_, .ref mle, .ref mno, .ref mtr, .ref mse, .ref mba, .int (nI (min 8 (q + 1))), .ref mim, .int km_, .int si_, .ref msi, .ref mfo, .int fm_, .ref mor, .ref mbo, .ref mma, .ref mbm, .ref mso])), (mno, .inl (V.2.2.1, 15, .inl (upd (stF day w g) (8 + c) (oilF (g c))))), (mba, .inl (V.2.2.1, 120, .inl (bkF (pushF q day zd) (pushF q w zw) (pushF q g zg))))]) rfl dX11_oil_57 ?_
    refine g_arr 1 (stF day w (upd g c (oilF (g c)))) rfl (stF_ug _ _ _ _ c (by omega)) (ws' := [(mm, .inr (11, [.int le_, .ref mtx, .int po_, .ref mnu, .int fa_, .int rcl_, .int rle_, .ref mrc, .ref mrw, .ref mrl, .int (nI n), .ref mki, .ref mwa, .int ls_, .ref mle, .ref mno, .ref mtr, .ref mse, .ref mba, .int (nI (min 8 (q + 1))), .ref mim, .int km_, .int si_, .ref msi, .ref mfo, .int fm_, .ref mor, .ref mbo, .ref mma, .ref mbm, .ref mso])), (mno, .inl (V.2.2.1, 15, .inl (stF day w (upd g c (oilF (g c)))))), (mba, .inl (V.2.2.1, 120, .inl (bkF (pushF q day zd) (pushF q w zw) (pushF q g zg))))]) rfl ?_
    refine g_aload_n X dX11_oil_58 rfl ?_
    refine g_get X uwX11 0 rfl rfl 15 (by decide) kl_X11_34 rfl rfl gwX11 dX11_oil_59 ?_
    refine g_bipush X (8) dX11_oil_62 (by decide) ?_
    refine g_iload_n X dX11_oil_64 rfl ?_
    refine g_iadd X dX11_oil_65 ?_
    refine g_toe (x' := nI (8 + c)) (nI_add' rfl rfl) ?_
    refine g_iald' X 1 rfl (i := (8 + c)) rfl (by omega) (by omega) dX11_oil_66 ?_
    refine g_toe (x' := (upd g c (oilF (g c))) c) (stF_g _ _ _ c) ?_
    refine g_bipush X (10) dX11_oil_67 (by decide) ?_
    refine g_iadd X dX11_oil_69 ?_
    exact g_iret X E dX11_oil_70 () (((upd g c (oilF (g c))) c) + 10) (by rw [pk_us]) rfl
  · have c48_13d := Int32.not_le.mp c48_13
    refine g_iconst X (-1) dX11_oil_51 (by decide) ?_
    refine g_goto X 56 dX11_oil_52 (by decide) ?_
    refine g_iadd X dX11_oil_56 ?_
    refine g_toe (x' := oilF (g c)) (oilM1 hg c48_13d) ?_
    refine g_iast' X 1 rfl (i := (8 + c)) rfl (by omega) (by omega) (ws' := [(mm, .inr (11, [.int le_, .ref mtx, .int po_, .ref mnu, .int fa_, .int rcl_, .int rle_, .ref mrc, .ref mrw, .ref mrl, .int (nI n), .ref mki, .ref mwa, .int ls_, .ref mle, .ref mno, .ref mtr, .ref mse, .ref mba, .int (nI (min 8 (q + 1))), .ref mim, .int km_, .int si_, .ref msi, .ref mfo, .int fm_, .ref mor, .ref mbo, .ref mma, .ref mbm, .ref mso])), (mno, .inl (V.2.2.1, 15, .inl (upd (stF day w g) (8 + c) (oilF (g c))))), (mba, .inl (V.2.2.1, 120, .inl (bkF (pushF q day zd) (pushF q w zw) (pushF q g zg))))]) rfl dX11_oil_57 ?_
    refine g_arr 1 (stF day w (upd g c (oilF (g c)))) rfl (stF_ug _ _ _ _ c (by omega)) (ws' := [(mm, .inr (11, [.int le_, .ref mtx, .int po_, .ref mnu, .int fa_, .int rcl_, .int rle_, .ref mrc, .ref mrw, .ref mrl, .int (nI n), .ref mki, .ref mwa, .int ls_, .ref mle, .ref mno, .ref mtr, .ref mse, .ref mba, .int (nI (min 8 (q + 1))), .ref mim, .int km_, .int si_, .ref msi, .ref mfo, .int fm_, .ref mor, .ref mbo, .ref mma, .ref mbm, .ref mso])), (mno, .inl (V.2.2.1, 15, .inl (stF day w (upd g c (oilF (g c)))))), (mba, .inl (V.2.2.1, 120, .inl (bkF (pushF q day zd) (pushF q w zw) (pushF q g zg))))]) rfl ?_
    refine g_aload_n X dX11_oil_58 rfl ?_
    refine g_get X uwX11 0 rfl rfl 15 (by decide) kl_X11_34 rfl rfl gwX11 dX11_oil_59 ?_
    refine g_bipush X (8) dX11_oil_62 (by decide) ?_
    refine g_iload_n X dX11_oil_64 rfl ?_
    refine g_iadd X dX11_oil_65 ?_
    refine g_toe (x' := nI (8 + c)) (nI_add' rfl rfl) ?_
    refine g_iald' X 1 rfl (i := (8 + c)) rfl (by omega) (by omega) dX11_oil_66 ?_
    refine g_toe (x' := (upd g c (oilF (g c))) c) (stF_g _ _ _ c) ?_
    refine g_bipush X (10) dX11_oil_67 (by decide) ?_
    refine g_iadd X dX11_oil_69 ?_
    exact g_iret X E dX11_oil_70 () (((upd g c (oilF (g c))) c) + 10) (by rw [pk_us]) rfl

set_option maxHeartbeats 4000000 in
set_option maxRecDepth 100000 in
theorem w_undo_no (V : gV) (mm : Nat) (mtx : Nat) (mnu : Nat) (mrc : Nat) (mrw : Nat) (mrl : Nat) (mki : Nat) (mwa : Nat) (mle : Nat) (mno : Nat) (mtr : Nat) (mse : Nat) (mba : Nat) (mim : Nat) (msi : Nat) (mfo : Nat) (mor : Nat) (mbo : Nat) (mma : Nat) (mbm : Nat) (mso : Nat) (le_ : Int32) (po_ : Int32) (fa_ : Int32) (rcl_ : Int32) (rle_ : Int32) (cl_ : Int32) (ls_ : Int32) (q : Nat) (km_ : Int32) (si_ : Int32) (fm_ : Int32) (hq : q = 0) : Ki V yX11_undo cX11_undo 1 .int ({ frames := 0, cells := 0, slots := 0, locals := 0 }) [.ref mm] [(mm, .inr (11, [.int le_, .ref mtx, .int po_, .ref mnu, .int fa_, .int rcl_, .int rle_, .ref mrc, .ref mrw, .ref mrl, .int cl_, .ref mki, .ref mwa, .int ls_, .ref mle, .ref mno, .ref mtr, .ref mse, .ref mba, .int (nI q), .ref mim, .int km_, .int si_, .ref msi, .ref mfo, .int fm_, .ref mor, .ref mbo, .ref mma, .ref mbm, .ref mso]))] (fun (r : Int32) (u : Unit) => r = -2) (fun u => [(mm, .inr (11, [.int le_, .ref mtx, .int po_, .ref mnu, .int fa_, .int rcl_, .int rle_, .ref mrc, .ref mrw, .ref mrl, .int cl_, .ref mki, .ref mwa, .int ls_, .ref mle, .ref mno, .ref mtr, .ref mse, .ref mba, .int (nI q), .ref mim, .int km_, .int si_, .ref msi, .ref mfo, .int fm_, .ref mor, .ref mbo, .ref mma, .ref mbm, .ref mso]))]) := by
  refine Ki.of [some (.ref mm)] (by decide) (Nat.le_of_ble_eq_true rfl) rfl rfl ?_
  intro Z X E
  have X : gX V Z RX11 cX11_undo 1 ({ frames := 0, cells := 0, slots := 0, locals := 0 }) := X
  refine g_aload_n X dX11_undo_0 rfl ?_
  refine g_get X uwX11 0 rfl rfl 19 (by decide) kl_X11_125 rfl rfl gwX11 dX11_undo_1 ?_
  refine g_if_ne X 10 dX11_undo_4 (by decide) (fun c4_1 => absurd (teq (a := q) (b := 0) (by omega) (by omega) (by omega)) c4_1) (fun c4_1 => ?_)
  refine g_bipush X (-2) dX11_undo_7 (by decide) ?_
  exact g_iret X E dX11_undo_9 () (-2) (by first | rfl | (simp [c4_1]; done)) rfl

set_option maxHeartbeats 4000000 in
set_option maxRecDepth 100000 in
theorem w_undo_ok (V : gV) (mm : Nat) (mtx : Nat) (mnu : Nat) (mrc : Nat) (mrw : Nat) (mrl : Nat) (mki : Nat) (mwa : Nat) (mle : Nat) (mno : Nat) (mtr : Nat) (mse : Nat) (mba : Nat) (mim : Nat) (msi : Nat) (mfo : Nat) (mor : Nat) (mbo : Nat) (mma : Nat) (mbm : Nat) (mso : Nat) (le_ : Int32) (po_ : Int32) (fa_ : Int32) (rcl_ : Int32) (rle_ : Int32) (cl_ : Int32) (ls_ : Int32) (q : Nat) (km_ : Int32) (si_ : Int32) (fm_ : Int32) (day : Int32) (w : Nat → Int32) (g : Nat → Int32) (zd : Nat → Int32) (zw : Nat → Nat → Int32) (zg : Nat → Nat → Int32) (hq : 1 ≤ q ∧ q ≤ 8) : Ki V yX11_undo cX11_undo 1 .int ({ frames := 1, cells := 0, slots := 0, locals := 24 }) [.ref mm] [(mm, .inr (11, [.int le_, .ref mtx, .int po_, .ref mnu, .int fa_, .int rcl_, .int rle_, .ref mrc, .ref mrw, .ref mrl, .int cl_, .ref mki, .ref mwa, .int ls_, .ref mle, .ref mno, .ref mtr, .ref mse, .ref mba, .int (nI q), .ref mim, .int km_, .int si_, .ref msi, .ref mfo, .int fm_, .ref mor, .ref mbo, .ref mma, .ref mbm, .ref mso])), (mno, .inl (V.2.2.1, 15, .inl (stF day w g))), (mba, .inl (V.2.2.1, 120, .inl (bkF zd zw zg)))] (fun (r : Int32) (u : Unit) => r = nI (q - 1)) (fun u => [(mm, .inr (11, [.int le_, .ref mtx, .int po_, .ref mnu, .int fa_, .int rcl_, .int rle_, .ref mrc, .ref mrw, .ref mrl, .int cl_, .ref mki, .ref mwa, .int ls_, .ref mle, .ref mno, .ref mtr, .ref mse, .ref mba, .int (nI (q - 1)), .ref mim, .int km_, .int si_, .ref msi, .ref mfo, .int fm_, .ref mor, .ref mbo, .ref mma, .ref mbm, .ref mso])), (mno, .inl (V.2.2.1, 15, .inl (stF (zd (q - 1)) (zw (q - 1)) (zg (q - 1))))), (mba, .inl (V.2.2.1, 120, .inl (bkF zd zw zg)))]) := by
  refine Ki.of [some (.ref mm)] (by decide) (Nat.le_of_ble_eq_true rfl) rfl rfl ?_
  intro Z X E
  have X : gX V Z RX11 cX11_undo 1 ({ frames := 1, cells := 0, slots := 0, locals := 24 }) := X
  refine g_aload_n X dX11_undo_0 rfl ?_
  refine g_get X uwX11 0 rfl rfl 19 (by decide) kl_X11_125 rfl rfl gwX11 dX11_undo_1 ?_
  refine g_if_ne X 10 dX11_undo_4 (by decide) (fun c4_1 => ?_) (fun c4_1 => absurd c4_1 (tne (a := q) (b := 0) (by omega) (by omega) (by omega)))
  refine g_aload_n X dX11_undo_10 rfl ?_
  refine g_dup X dX11_undo_11 rfl ?_
  refine g_get X uwX11 0 rfl rfl 19 (by decide) kl_X11_125 rfl rfl gwX11 dX11_undo_12 ?_
  refine g_iconst X (1) dX11_undo_15 (by decide) ?_
  refine g_isub X dX11_undo_16 ?_
  refine g_toe (x' := nI (q - 1)) (nI_sub' rfl rfl (by omega)) ?_
  refine g_put X uwX11 tyX11 tyX11_ok nmX11 0 rfl rfl 19 (by decide) kl_X11_125 rfl rfl rfl rfl (Nat.le_of_ble_eq_true rfl) gwX11 (ws' := [(mm, .inr (11, [.int le_, .ref mtx, .int po_, .ref mnu, .int fa_, .int rcl_, .int rle_, .ref mrc, .ref mrw, .ref mrl, .int cl_, .ref mki, .ref mwa, .int ls_, .ref mle, .ref mno, .ref mtr, .ref mse, .ref mba, .int (nI (q - 1)), .ref mim, .int km_, .int si_, .ref msi, .ref mfo, .int fm_, .ref mor, .ref mbo, .ref mma, .ref mbm, .ref mso])), (mno, .inl (V.2.2.1, 15, .inl (stF day w g))), (mba, .inl (V.2.2.1, 120, .inl (bkF zd zw zg)))]) rfl dX11_undo_17 ?_
  refine g_aload_n X dX11_undo_20 rfl ?_
  refine g_get X uwX11 0 rfl rfl 18 (by decide) kl_X11_43 rfl rfl gwX11 dX11_undo_21 ?_
  refine g_bipush X (15) dX11_undo_24 (by decide) ?_
  refine g_aload_n X dX11_undo_26 rfl ?_
  refine g_get X uwX11 0 rfl rfl 19 (by decide) kl_X11_125 rfl rfl gwX11 dX11_undo_27 ?_
  refine g_imul X dX11_undo_30 ?_
  refine g_toe (x' := nI (15 * (q - 1))) (nI_mul' rfl rfl) ?_
  refine g_aload_n X dX11_undo_31 rfl ?_
  refine g_get X uwX11 0 rfl rfl 15 (by decide) kl_X11_34 rfl rfl gwX11 dX11_undo_32 ?_
  refine g_iconst X (0) dX11_undo_35 (by decide) ?_
  refine g_callSv X (c_X11_copy V mba 120 (bkF zd zw zg) mno 15 (stF day w g) (15 * (q - 1)) 0 (by omega) (by omega) (by omega) (by omega)) mo_X11_copy kl_X11_165 [2, 1] [0, 2, 1] rfl (by decide +kernel) rfl rfl (fun _ => Nat.le_of_ble_eq_true rfl) (As := [.ref mba, .int (nI (15 * (q - 1))), .ref mno, .int 0]) (st := []) (cs' := (0, 0)) rfl rfl rfl dX11_undo_36 (fun u_2 hp_3 ws_5 hw_4 => ?_)
  have hw_4x : ws_5 = [(mm, .inr (11, [.int le_, .ref mtx, .int po_, .ref mnu, .int fa_, .int rcl_, .int rle_, .ref mrc, .ref mrw, .ref mrl, .int cl_, .ref mki, .ref mwa, .int ls_, .ref mle, .ref mno, .ref mtr, .ref mse, .ref mba, .int (nI (q - 1)), .ref mim, .int km_, .int si_, .ref msi, .ref mfo, .int fm_, .ref mor, .ref mbo, .ref mma, .ref mbm, .ref mso])), (mno, .inl (V.2.2.1, 15, .inl (cpM 0 (15 * (q - 1)) (bkF zd zw zg) (stF day w g)))), (mba, .inl (V.2.2.1, 120, .inl (bkF zd zw zg)))] := hw_4.symm
  clear hw_4; subst hw_4x
  refine g_arr 1 (stF (zd (q - 1)) (zw (q - 1)) (zg (q - 1))) rfl (cpM_get (q - 1)) (ws' := [(mm, .inr (11, [.int le_, .ref mtx, .int po_, .ref mnu, .int fa_, .int rcl_, .int rle_, .ref mrc, .ref mrw, .ref mrl, .int cl_, .ref mki, .ref mwa, .int ls_, .ref mle, .ref mno, .ref mtr, .ref mse, .ref mba, .int (nI (q - 1)), .ref mim, .int km_, .int si_, .ref msi, .ref mfo, .int fm_, .ref mor, .ref mbo, .ref mma, .ref mbm, .ref mso])), (mno, .inl (V.2.2.1, 15, .inl (stF (zd (q - 1)) (zw (q - 1)) (zg (q - 1))))), (mba, .inl (V.2.2.1, 120, .inl (bkF zd zw zg)))]) rfl ?_
  refine g_aload_n X dX11_undo_39 rfl ?_
  refine g_get X uwX11 0 rfl rfl 19 (by decide) kl_X11_125 rfl rfl gwX11 dX11_undo_40 ?_
  exact g_iret X E dX11_undo_43 () (nI (q - 1)) (by first | rfl | (simp [c4_1]; done)) rfl

set_option maxHeartbeats 4000000 in
set_option maxRecDepth 100000 in
theorem w_keep_full (V : gV) (mm : Nat) (mtx : Nat) (mnu : Nat) (mrc : Nat) (mrw : Nat) (mrl : Nat) (mki : Nat) (mwa : Nat) (mle : Nat) (mno : Nat) (mtr : Nat) (mse : Nat) (mba : Nat) (mim : Nat) (msi : Nat) (mfo : Nat) (mor : Nat) (mbo : Nat) (mma : Nat) (mbm : Nat) (mso : Nat) (le_ : Int32) (po_ : Int32) (fa_ : Int32) (rcl_ : Int32) (rle_ : Int32) (cl_ : Int32) (ls_ : Int32) (ba_ : Int32) (q2 : Nat) (si_ : Int32) (fm_ : Int32) (hq : q2 = 2) : Ki V yX11_keep cX11_keep 1 .int ({ frames := 0, cells := 0, slots := 0, locals := 0 }) [.ref mm] [(mm, .inr (11, [.int le_, .ref mtx, .int po_, .ref mnu, .int fa_, .int rcl_, .int rle_, .ref mrc, .ref mrw, .ref mrl, .int cl_, .ref mki, .ref mwa, .int ls_, .ref mle, .ref mno, .ref mtr, .ref mse, .ref mba, .int ba_, .ref mim, .int (nI q2), .int si_, .ref msi, .ref mfo, .int fm_, .ref mor, .ref mbo, .ref mma, .ref mbm, .ref mso]))] (fun (r : Int32) (u : Unit) => r = -3) (fun u => [(mm, .inr (11, [.int le_, .ref mtx, .int po_, .ref mnu, .int fa_, .int rcl_, .int rle_, .ref mrc, .ref mrw, .ref mrl, .int cl_, .ref mki, .ref mwa, .int ls_, .ref mle, .ref mno, .ref mtr, .ref mse, .ref mba, .int ba_, .ref mim, .int (nI q2), .int si_, .ref msi, .ref mfo, .int fm_, .ref mor, .ref mbo, .ref mma, .ref mbm, .ref mso]))]) := by
  refine Ki.of [some (.ref mm)] (by decide) (Nat.le_of_ble_eq_true rfl) rfl rfl ?_
  intro Z X E
  have X : gX V Z RX11 cX11_keep 1 ({ frames := 0, cells := 0, slots := 0, locals := 0 }) := X
  refine g_aload_n X dX11_keep_0 rfl ?_
  refine g_get X uwX11 0 rfl rfl 21 (by decide) kl_X11_128 rfl rfl gwX11 dX11_keep_1 ?_
  refine g_iconst X (2) dX11_keep_4 (by decide) ?_
  refine g_icmp_ne X 11 dX11_keep_5 (by decide) (fun c5_1 => absurd (teq (a := q2) (b := 2) (by omega) (by omega) (by omega)) c5_1) (fun c5_1 => ?_)
  refine g_bipush X (-3) dX11_keep_8 (by decide) ?_
  exact g_iret X E dX11_keep_10 () (-3) (by first | rfl | (simp [c5_1]; done)) rfl

set_option maxHeartbeats 4000000 in
set_option maxRecDepth 100000 in
theorem w_keep_ok (V : gV) (mm : Nat) (mtx : Nat) (mnu : Nat) (mrc : Nat) (mrw : Nat) (mrl : Nat) (mki : Nat) (mwa : Nat) (mle : Nat) (mno : Nat) (mtr : Nat) (mse : Nat) (mba : Nat) (mim : Nat) (msi : Nat) (mfo : Nat) (mor : Nat) (mbo : Nat) (mma : Nat) (mbm : Nat) (mso : Nat) (le_ : Int32) (po_ : Int32) (fa_ : Int32) (rcl_ : Int32) (rle_ : Int32) (cl_ : Int32) (ls_ : Int32) (ba_ : Int32) (q2 : Nat) (si_ : Int32) (fm_ : Int32) (day : Int32) (w : Nat → Int32) (g : Nat → Int32) (zd2 : Nat → Int32) (zw2 : Nat → Nat → Int32) (zg2 : Nat → Nat → Int32) (hq : q2 < 2) : Ki V yX11_keep cX11_keep 1 .int ({ frames := 1, cells := 0, slots := 0, locals := 24 }) [.ref mm] [(mm, .inr (11, [.int le_, .ref mtx, .int po_, .ref mnu, .int fa_, .int rcl_, .int rle_, .ref mrc, .ref mrw, .ref mrl, .int cl_, .ref mki, .ref mwa, .int ls_, .ref mle, .ref mno, .ref mtr, .ref mse, .ref mba, .int ba_, .ref mim, .int (nI q2), .int si_, .ref msi, .ref mfo, .int fm_, .ref mor, .ref mbo, .ref mma, .ref mbm, .ref mso])), (mno, .inl (V.2.2.1, 15, .inl (stF day w g))), (mim, .inl (V.2.2.1, 30, .inl (bkF zd2 zw2 zg2)))] (fun (r : Int32) (u : Unit) => r = nI (q2 + 1)) (fun u => [(mm, .inr (11, [.int le_, .ref mtx, .int po_, .ref mnu, .int fa_, .int rcl_, .int rle_, .ref mrc, .ref mrw, .ref mrl, .int cl_, .ref mki, .ref mwa, .int ls_, .ref mle, .ref mno, .ref mtr, .ref mse, .ref mba, .int ba_, .ref mim, .int (nI (q2 + 1)), .int si_, .ref msi, .ref mfo, .int fm_, .ref mor, .ref mbo, .ref mma, .ref mbm, .ref mso])), (mno, .inl (V.2.2.1, 15, .inl (stF day w g))), (mim, .inl (V.2.2.1, 30, .inl (bkF (pushF q2 day zd2) (pushF q2 w zw2) (pushF q2 g zg2))))]) := by
  refine Ki.of [some (.ref mm)] (by decide) (Nat.le_of_ble_eq_true rfl) rfl rfl ?_
  intro Z X E
  have X : gX V Z RX11 cX11_keep 1 ({ frames := 1, cells := 0, slots := 0, locals := 24 }) := X
  refine g_aload_n X dX11_keep_0 rfl ?_
  refine g_get X uwX11 0 rfl rfl 21 (by decide) kl_X11_128 rfl rfl gwX11 dX11_keep_1 ?_
  refine g_iconst X (2) dX11_keep_4 (by decide) ?_
  refine g_icmp_ne X 11 dX11_keep_5 (by decide) (fun c5_1 => ?_) (fun c5_1 => absurd c5_1 (tne (a := q2) (b := 2) (by omega) (by omega) (by omega)))
  refine g_aload_n X dX11_keep_11 rfl ?_
  refine g_get X uwX11 0 rfl rfl 15 (by decide) kl_X11_34 rfl rfl gwX11 dX11_keep_12 ?_
  refine g_iconst X (0) dX11_keep_15 (by decide) ?_
  refine g_aload_n X dX11_keep_16 rfl ?_
  refine g_get X uwX11 0 rfl rfl 20 (by decide) kl_X11_46 rfl rfl gwX11 dX11_keep_17 ?_
  refine g_bipush X (15) dX11_keep_20 (by decide) ?_
  refine g_aload_n X dX11_keep_22 rfl ?_
  refine g_get X uwX11 0 rfl rfl 21 (by decide) kl_X11_128 rfl rfl gwX11 dX11_keep_23 ?_
  refine g_imul X dX11_keep_26 ?_
  refine g_toe (x' := nI (15 * q2)) (nI_mul' rfl rfl) ?_
  refine g_callSv X (c_X11_copy V mno 15 (stF day w g) mim 30 (bkF zd2 zw2 zg2) 0 (15 * q2) (by omega) (by omega) (by omega) (by omega)) mo_X11_copy kl_X11_165 [1, 2] [0, 1, 2] rfl (by decide +kernel) rfl rfl (fun _ => Nat.le_of_ble_eq_true rfl) (As := [.ref mno, .int 0, .ref mim, .int (nI (15 * q2))]) (st := []) (cs' := (0, 0)) rfl rfl rfl dX11_keep_27 (fun u_2 hp_3 ws_5 hw_4 => ?_)
  have hw_4x : ws_5 = [(mm, .inr (11, [.int le_, .ref mtx, .int po_, .ref mnu, .int fa_, .int rcl_, .int rle_, .ref mrc, .ref mrw, .ref mrl, .int cl_, .ref mki, .ref mwa, .int ls_, .ref mle, .ref mno, .ref mtr, .ref mse, .ref mba, .int ba_, .ref mim, .int (nI q2), .int si_, .ref msi, .ref mfo, .int fm_, .ref mor, .ref mbo, .ref mma, .ref mbm, .ref mso])), (mno, .inl (V.2.2.1, 15, .inl (stF day w g))), (mim, .inl (V.2.2.1, 30, .inl (cpM (15 * q2) 0 (stF day w g) (bkF zd2 zw2 zg2))))] := hw_4.symm
  clear hw_4; subst hw_4x
  refine g_arr 2 (bkF (pushF q2 day zd2) (pushF q2 w zw2) (pushF q2 g zg2)) rfl (by rw [pushF_lt (by omega), pushF_lt (by omega), pushF_lt (by omega)]; exact cpM_put q2 30) (ws' := [(mm, .inr (11, [.int le_, .ref mtx, .int po_, .ref mnu, .int fa_, .int rcl_, .int rle_, .ref mrc, .ref mrw, .ref mrl, .int cl_, .ref mki, .ref mwa, .int ls_, .ref mle, .ref mno, .ref mtr, .ref mse, .ref mba, .int ba_, .ref mim, .int (nI q2), .int si_, .ref msi, .ref mfo, .int fm_, .ref mor, .ref mbo, .ref mma, .ref mbm, .ref mso])), (mno, .inl (V.2.2.1, 15, .inl (stF day w g))), (mim, .inl (V.2.2.1, 30, .inl (bkF (pushF q2 day zd2) (pushF q2 w zw2) (pushF q2 g zg2))))]) rfl ?_
  refine g_aload_n X dX11_keep_30 rfl ?_
  refine g_dup X dX11_keep_31 rfl ?_
  refine g_get X uwX11 0 rfl rfl 21 (by decide) kl_X11_128 rfl rfl gwX11 dX11_keep_32 ?_
  refine g_iconst X (1) dX11_keep_35 (by decide) ?_
  refine g_iadd X dX11_keep_36 ?_
  refine g_toe (x' := nI (q2 + 1)) (nI_add' rfl rfl) ?_
  refine g_put X uwX11 tyX11 tyX11_ok nmX11 0 rfl rfl 21 (by decide) kl_X11_128 rfl rfl rfl rfl (Nat.le_of_ble_eq_true rfl) gwX11 (ws' := [(mm, .inr (11, [.int le_, .ref mtx, .int po_, .ref mnu, .int fa_, .int rcl_, .int rle_, .ref mrc, .ref mrw, .ref mrl, .int cl_, .ref mki, .ref mwa, .int ls_, .ref mle, .ref mno, .ref mtr, .ref mse, .ref mba, .int ba_, .ref mim, .int (nI (q2 + 1)), .int si_, .ref msi, .ref mfo, .int fm_, .ref mor, .ref mbo, .ref mma, .ref mbm, .ref mso])), (mno, .inl (V.2.2.1, 15, .inl (stF day w g))), (mim, .inl (V.2.2.1, 30, .inl (bkF (pushF q2 day zd2) (pushF q2 w zw2) (pushF q2 g zg2))))]) rfl dX11_keep_37 ?_
  refine g_aload_n X dX11_keep_40 rfl ?_
  refine g_get X uwX11 0 rfl rfl 21 (by decide) kl_X11_128 rfl rfl gwX11 dX11_keep_41 ?_
  exact g_iret X E dX11_keep_44 () (nI (q2 + 1)) (by first | rfl | (simp [c5_1]; done)) rfl

set_option maxHeartbeats 4000000 in
set_option maxRecDepth 100000 in
theorem w_back_no (V : gV) (mm : Nat) (mtx : Nat) (mnu : Nat) (mrc : Nat) (mrw : Nat) (mrl : Nat) (mki : Nat) (mwa : Nat) (mle : Nat) (mno : Nat) (mtr : Nat) (mse : Nat) (mba : Nat) (mim : Nat) (msi : Nat) (mfo : Nat) (mor : Nat) (mbo : Nat) (mma : Nat) (mbm : Nat) (mso : Nat) (le_ : Int32) (po_ : Int32) (fa_ : Int32) (rcl_ : Int32) (rle_ : Int32) (cl_ : Int32) (ls_ : Int32) (ba_ : Int32) (q2 : Nat) (si_ : Int32) (fm_ : Int32) (hq : q2 = 0) : Ki V yX11_back cX11_back 1 .int ({ frames := 0, cells := 0, slots := 0, locals := 0 }) [.ref mm] [(mm, .inr (11, [.int le_, .ref mtx, .int po_, .ref mnu, .int fa_, .int rcl_, .int rle_, .ref mrc, .ref mrw, .ref mrl, .int cl_, .ref mki, .ref mwa, .int ls_, .ref mle, .ref mno, .ref mtr, .ref mse, .ref mba, .int ba_, .ref mim, .int (nI q2), .int si_, .ref msi, .ref mfo, .int fm_, .ref mor, .ref mbo, .ref mma, .ref mbm, .ref mso]))] (fun (r : Int32) (u : Unit) => r = -2) (fun u => [(mm, .inr (11, [.int le_, .ref mtx, .int po_, .ref mnu, .int fa_, .int rcl_, .int rle_, .ref mrc, .ref mrw, .ref mrl, .int cl_, .ref mki, .ref mwa, .int ls_, .ref mle, .ref mno, .ref mtr, .ref mse, .ref mba, .int ba_, .ref mim, .int (nI q2), .int si_, .ref msi, .ref mfo, .int fm_, .ref mor, .ref mbo, .ref mma, .ref mbm, .ref mso]))]) := by
  refine Ki.of [some (.ref mm)] (by decide) (Nat.le_of_ble_eq_true rfl) rfl rfl ?_
  intro Z X E
  have X : gX V Z RX11 cX11_back 1 ({ frames := 0, cells := 0, slots := 0, locals := 0 }) := X
  refine g_aload_n X dX11_back_0 rfl ?_
  refine g_get X uwX11 0 rfl rfl 21 (by decide) kl_X11_128 rfl rfl gwX11 dX11_back_1 ?_
  refine g_if_ne X 10 dX11_back_4 (by decide) (fun c4_1 => absurd (teq (a := q2) (b := 0) (by omega) (by omega) (by omega)) c4_1) (fun c4_1 => ?_)
  refine g_bipush X (-2) dX11_back_7 (by decide) ?_
  exact g_iret X E dX11_back_9 () (-2) (by first | rfl | (simp [c4_1]; done)) rfl

set_option maxHeartbeats 4000000 in
set_option maxRecDepth 100000 in
theorem w_back_ok (V : gV) (mm : Nat) (mtx : Nat) (mnu : Nat) (mrc : Nat) (mrw : Nat) (mrl : Nat) (mki : Nat) (mwa : Nat) (mle : Nat) (mno : Nat) (mtr : Nat) (mse : Nat) (mba : Nat) (mim : Nat) (msi : Nat) (mfo : Nat) (mor : Nat) (mbo : Nat) (mma : Nat) (mbm : Nat) (mso : Nat) (le_ : Int32) (po_ : Int32) (fa_ : Int32) (rcl_ : Int32) (rle_ : Int32) (cl_ : Int32) (ls_ : Int32) (ba_ : Int32) (q2 : Nat) (si_ : Int32) (fm_ : Int32) (day : Int32) (w : Nat → Int32) (g : Nat → Int32) (zd2 : Nat → Int32) (zw2 : Nat → Nat → Int32) (zg2 : Nat → Nat → Int32) (hq : 1 ≤ q2 ∧ q2 ≤ 2) : Ki V yX11_back cX11_back 1 .int ({ frames := 1, cells := 0, slots := 0, locals := 24 }) [.ref mm] [(mm, .inr (11, [.int le_, .ref mtx, .int po_, .ref mnu, .int fa_, .int rcl_, .int rle_, .ref mrc, .ref mrw, .ref mrl, .int cl_, .ref mki, .ref mwa, .int ls_, .ref mle, .ref mno, .ref mtr, .ref mse, .ref mba, .int ba_, .ref mim, .int (nI q2), .int si_, .ref msi, .ref mfo, .int fm_, .ref mor, .ref mbo, .ref mma, .ref mbm, .ref mso])), (mno, .inl (V.2.2.1, 15, .inl (stF day w g))), (mim, .inl (V.2.2.1, 30, .inl (bkF zd2 zw2 zg2)))] (fun (r : Int32) (u : Unit) => r = nI (q2 - 1)) (fun u => [(mm, .inr (11, [.int le_, .ref mtx, .int po_, .ref mnu, .int fa_, .int rcl_, .int rle_, .ref mrc, .ref mrw, .ref mrl, .int cl_, .ref mki, .ref mwa, .int ls_, .ref mle, .ref mno, .ref mtr, .ref mse, .ref mba, .int (nI 0), .ref mim, .int (nI (q2 - 1)), .int si_, .ref msi, .ref mfo, .int fm_, .ref mor, .ref mbo, .ref mma, .ref mbm, .ref mso])), (mno, .inl (V.2.2.1, 15, .inl (stF (zd2 (q2 - 1)) (zw2 (q2 - 1)) (zg2 (q2 - 1))))), (mim, .inl (V.2.2.1, 30, .inl (bkF zd2 zw2 zg2)))]) := by
  refine Ki.of [some (.ref mm)] (by decide) (Nat.le_of_ble_eq_true rfl) rfl rfl ?_
  intro Z X E
  have X : gX V Z RX11 cX11_back 1 ({ frames := 1, cells := 0, slots := 0, locals := 24 }) := X
  refine g_aload_n X dX11_back_0 rfl ?_
  refine g_get X uwX11 0 rfl rfl 21 (by decide) kl_X11_128 rfl rfl gwX11 dX11_back_1 ?_
  refine g_if_ne X 10 dX11_back_4 (by decide) (fun c4_1 => ?_) (fun c4_1 => absurd c4_1 (tne (a := q2) (b := 0) (by omega) (by omega) (by omega)))
  refine g_aload_n X dX11_back_10 rfl ?_
  refine g_dup X dX11_back_11 rfl ?_
  refine g_get X uwX11 0 rfl rfl 21 (by decide) kl_X11_128 rfl rfl gwX11 dX11_back_12 ?_
  refine g_iconst X (1) dX11_back_15 (by decide) ?_
  refine g_isub X dX11_back_16 ?_
  refine g_toe (x' := nI (q2 - 1)) (nI_sub' rfl rfl (by omega)) ?_
  refine g_put X uwX11 tyX11 tyX11_ok nmX11 0 rfl rfl 21 (by decide) kl_X11_128 rfl rfl rfl rfl (Nat.le_of_ble_eq_true rfl) gwX11 (ws' := [(mm, .inr (11, [.int le_, .ref mtx, .int po_, .ref mnu, .int fa_, .int rcl_, .int rle_, .ref mrc, .ref mrw, .ref mrl, .int cl_, .ref mki, .ref mwa, .int ls_, .ref mle, .ref mno, .ref mtr, .ref mse, .ref mba, .int ba_, .ref mim, .int (nI (q2 - 1)), .int si_, .ref msi, .ref mfo, .int fm_, .ref mor, .ref mbo, .ref mma, .ref mbm, .ref mso])), (mno, .inl (V.2.2.1, 15, .inl (stF day w g))), (mim, .inl (V.2.2.1, 30, .inl (bkF zd2 zw2 zg2)))]) rfl dX11_back_17 ?_
  refine g_aload_n X dX11_back_20 rfl ?_
  refine g_get X uwX11 0 rfl rfl 20 (by decide) kl_X11_46 rfl rfl gwX11 dX11_back_21 ?_
  refine g_bipush X (15) dX11_back_24 (by decide) ?_
  refine g_aload_n X dX11_back_26 rfl ?_
  refine g_get X uwX11 0 rfl rfl 21 (by decide) kl_X11_128 rfl rfl gwX11 dX11_back_27 ?_
  refine g_imul X dX11_back_30 ?_
  refine g_toe (x' := nI (15 * (q2 - 1))) (nI_mul' rfl rfl) ?_
  refine g_aload_n X dX11_back_31 rfl ?_
  refine g_get X uwX11 0 rfl rfl 15 (by decide) kl_X11_34 rfl rfl gwX11 dX11_back_32 ?_
  refine g_iconst X (0) dX11_back_35 (by decide) ?_
  refine g_callSv X (c_X11_copy V mim 30 (bkF zd2 zw2 zg2) mno 15 (stF day w g) (15 * (q2 - 1)) 0 (by omega) (by omega) (by omega) (by omega)) mo_X11_copy kl_X11_165 [2, 1] [0, 2, 1] rfl (by decide +kernel) rfl rfl (fun _ => Nat.le_of_ble_eq_true rfl) (As := [.ref mim, .int (nI (15 * (q2 - 1))), .ref mno, .int 0]) (st := []) (cs' := (0, 0)) rfl rfl rfl dX11_back_36 (fun u_2 hp_3 ws_5 hw_4 => ?_)
  have hw_4x : ws_5 = [(mm, .inr (11, [.int le_, .ref mtx, .int po_, .ref mnu, .int fa_, .int rcl_, .int rle_, .ref mrc, .ref mrw, .ref mrl, .int cl_, .ref mki, .ref mwa, .int ls_, .ref mle, .ref mno, .ref mtr, .ref mse, .ref mba, .int ba_, .ref mim, .int (nI (q2 - 1)), .int si_, .ref msi, .ref mfo, .int fm_, .ref mor, .ref mbo, .ref mma, .ref mbm, .ref mso])), (mno, .inl (V.2.2.1, 15, .inl (cpM 0 (15 * (q2 - 1)) (bkF zd2 zw2 zg2) (stF day w g)))), (mim, .inl (V.2.2.1, 30, .inl (bkF zd2 zw2 zg2)))] := hw_4.symm
  clear hw_4; subst hw_4x
  refine g_arr 1 (stF (zd2 (q2 - 1)) (zw2 (q2 - 1)) (zg2 (q2 - 1))) rfl (cpM_get (q2 - 1)) (ws' := [(mm, .inr (11, [.int le_, .ref mtx, .int po_, .ref mnu, .int fa_, .int rcl_, .int rle_, .ref mrc, .ref mrw, .ref mrl, .int cl_, .ref mki, .ref mwa, .int ls_, .ref mle, .ref mno, .ref mtr, .ref mse, .ref mba, .int ba_, .ref mim, .int (nI (q2 - 1)), .int si_, .ref msi, .ref mfo, .int fm_, .ref mor, .ref mbo, .ref mma, .ref mbm, .ref mso])), (mno, .inl (V.2.2.1, 15, .inl (stF (zd2 (q2 - 1)) (zw2 (q2 - 1)) (zg2 (q2 - 1))))), (mim, .inl (V.2.2.1, 30, .inl (bkF zd2 zw2 zg2)))]) rfl ?_
  refine g_aload_n X dX11_back_39 rfl ?_
  refine g_iconst X (0) dX11_back_40 (by decide) ?_
  refine g_put X uwX11 tyX11 tyX11_ok nmX11 0 rfl rfl 19 (by decide) kl_X11_125 rfl rfl rfl rfl (Nat.le_of_ble_eq_true rfl) gwX11 (ws' := [(mm, .inr (11, [.int le_, .ref mtx, .int po_, .ref mnu, .int fa_, .int rcl_, .int rle_, .ref mrc, .ref mrw, .ref mrl, .int cl_, .ref mki, .ref mwa, .int ls_, .ref mle, .ref mno, .ref mtr, .ref mse, .ref mba, .int 0, .ref mim, .int (nI (q2 - 1)), .int si_, .ref msi, .ref mfo, .int fm_, .ref mor, .ref mbo, .ref mma, .ref mbm, .ref mso])), (mno, .inl (V.2.2.1, 15, .inl (stF (zd2 (q2 - 1)) (zw2 (q2 - 1)) (zg2 (q2 - 1))))), (mim, .inl (V.2.2.1, 30, .inl (bkF zd2 zw2 zg2)))]) rfl dX11_back_41 ?_
  refine g_aload_n X dX11_back_44 rfl ?_
  refine g_get X uwX11 0 rfl rfl 21 (by decide) kl_X11_128 rfl rfl gwX11 dX11_back_45 ?_
  exact g_iret X E dX11_back_48 () (nI (q2 - 1)) (by first | rfl | (simp [c4_1]; done)) rfl

set_option maxHeartbeats 4000000 in
set_option maxRecDepth 100000 in
theorem w_behind_bad (V : gV) (mm : Nat) (mtx : Nat) (mnu : Nat) (mrc : Nat) (mrw : Nat) (mrl : Nat) (mki : Nat) (mwa : Nat) (mle : Nat) (mno : Nat) (mtr : Nat) (mse : Nat) (mba : Nat) (mim : Nat) (msi : Nat) (mfo : Nat) (mor : Nat) (mbo : Nat) (mma : Nat) (mbm : Nat) (mso : Nat) (le_ : Int32) (po_ : Int32) (fa_ : Int32) (rcl_ : Int32) (rle_ : Int32) (n : Nat) (ls_ : Int32) (ba_ : Int32) (km_ : Int32) (si_ : Int32) (fm_ : Int32) (v : Int32) (c : Int32) (hn : n ≤ 7) (h1n : 1 ≤ n) (hbad : ¬ (¬ v < 0 ∧ v ≤ 60 ∧ (c = -1 ∨ okC n c))) : Ki V yX11_behind cX11_behind 4 .int ({ frames := 1, cells := 0, slots := 0, locals := 22 }) [.ref mm, .int v, .int c] [(mm, .inr (11, [.int le_, .ref mtx, .int po_, .ref mnu, .int fa_, .int rcl_, .int rle_, .ref mrc, .ref mrw, .ref mrl, .int (nI n), .ref mki, .ref mwa, .int ls_, .ref mle, .ref mno, .ref mtr, .ref mse, .ref mba, .int ba_, .ref mim, .int km_, .int si_, .ref msi, .ref mfo, .int fm_, .ref mor, .ref mbo, .ref mma, .ref mbm, .ref mso]))] (fun (r : Int32) (u : Unit) => r = -1) (fun u => [(mm, .inr (11, [.int le_, .ref mtx, .int po_, .ref mnu, .int fa_, .int rcl_, .int rle_, .ref mrc, .ref mrw, .ref mrl, .int (nI n), .ref mki, .ref mwa, .int ls_, .ref mle, .ref mno, .ref mtr, .ref mse, .ref mba, .int ba_, .ref mim, .int km_, .int si_, .ref msi, .ref mfo, .int fm_, .ref mor, .ref mbo, .ref mma, .ref mbm, .ref mso]))]) := by
  refine Ki.of [some (.ref mm), some (.int v), some (.int c), none] (by decide) (Nat.le_of_ble_eq_true rfl) rfl rfl ?_
  intro Z X E
  have X : gX V Z RX11 cX11_behind 4 ({ frames := 1, cells := 0, slots := 0, locals := 22 }) := X
  refine g_iload_n X dX11_behind_0 rfl ?_
  refine g_iconst X (0) dX11_behind_1 (by decide) ?_
  refine g_bipush X (60) dX11_behind_2 (by decide) ?_
  refine g_callSi X (c_X11_in V v 0 60) mo_X11_in kl_X11_94 [] [0] rfl (by decide +kernel) rfl rfl (fun _ => Nat.le_of_ble_eq_true rfl) (As := [.int v, .int 0, .int 60]) (st := []) (cs' := (0, 0)) rfl rfl rfl dX11_behind_4 (fun r_5 u_1 hp_2 ws_4 hw_3 => ?_)
  obtain rfl : r_5 = inF v 0 60 := hp_2
  have hw_3x : ws_4 = [(mm, .inr (11, [.int le_, .ref mtx, .int po_, .ref mnu, .int fa_, .int rcl_, .int rle_, .ref mrc, .ref mrw, .ref mrl, .int (nI n), .ref mki, .ref mwa, .int ls_, .ref mle, .ref mno, .ref mtr, .ref mse, .ref mba, .int ba_, .ref mim, .int km_, .int si_, .ref msi, .ref mfo, .int fm_, .ref mor, .ref mbo, .ref mma, .ref mbm, .ref mso]))] := hw_3.symm
  clear hw_3; subst hw_3x
  refine g_if_eq X 24 dX11_behind_7 (by decide) (fun c7_6 => ?_) (fun c7_6 => ?_)
  · refine g_iconst X (-1) dX11_behind_24 (by decide) ?_
    exact g_iret X E dX11_behind_25 () (-1) (by first | rfl | (simp [c7_6]; done)) rfl
  · refine g_iload_n X dX11_behind_10 rfl ?_
    refine g_iconst X (-1) dX11_behind_11 (by decide) ?_
    refine g_aload_n X dX11_behind_12 rfl ?_
    refine g_get X uwX11 0 rfl rfl 10 (by decide) kl_X11_91 rfl rfl gwX11 dX11_behind_13 ?_
    refine g_iconst X (1) dX11_behind_16 (by decide) ?_
    refine g_isub X dX11_behind_17 ?_
    refine g_toe (x' := nI (n - 1)) (nI_sub' rfl rfl (by omega)) ?_
    refine g_callSi X (c_X11_in V c (-1) (nI (n - 1))) mo_X11_in kl_X11_94 [] [0] rfl (by decide +kernel) rfl rfl (fun _ => Nat.le_of_ble_eq_true rfl) (As := [.int c, .int (-1), .int (nI (n - 1))]) (st := []) (cs' := (0, 0)) rfl rfl rfl dX11_behind_18 (fun r_11 u_7 hp_8 ws_10 hw_9 => ?_)
    obtain rfl : r_11 = inF c (-1) (nI (n - 1)) := hp_8
    have hw_9x : ws_10 = [(mm, .inr (11, [.int le_, .ref mtx, .int po_, .ref mnu, .int fa_, .int rcl_, .int rle_, .ref mrc, .ref mrw, .ref mrl, .int (nI n), .ref mki, .ref mwa, .int ls_, .ref mle, .ref mno, .ref mtr, .ref mse, .ref mba, .int ba_, .ref mim, .int km_, .int si_, .ref msi, .ref mfo, .int fm_, .ref mor, .ref mbo, .ref mma, .ref mbm, .ref mso]))] := hw_9.symm
    clear hw_9; subst hw_9x
    refine g_if_ne X 26 dX11_behind_21 (by decide) (fun c21_12 => ?_) (fun c21_12 => ?_)
    · exact absurd (inF_beh h1n (by omega) c7_6 c21_12) hbad
    · refine g_iconst X (-1) dX11_behind_24 (by decide) ?_
      exact g_iret X E dX11_behind_25 () (-1) (by first | rfl | (simp [c7_6, c21_12]; done)) rfl

set_option maxHeartbeats 4000000 in
set_option maxRecDepth 100000 in
theorem w_behind_noon (V : gV) (mm : Nat) (mtx : Nat) (mnu : Nat) (mrc : Nat) (mrw : Nat) (mrl : Nat) (mki : Nat) (mwa : Nat) (mle : Nat) (mno : Nat) (mtr : Nat) (mse : Nat) (mba : Nat) (mim : Nat) (msi : Nat) (mfo : Nat) (mor : Nat) (mbo : Nat) (mma : Nat) (mbm : Nat) (mso : Nat) (le_ : Int32) (po_ : Int32) (fa_ : Int32) (rcl_ : Int32) (rle_ : Int32) (n : Nat) (m : Nat) (ba_ : Int32) (km_ : Int32) (si_ : Int32) (fm_ : Int32) (k : Nat → Int32) (wb : Nat → Int32) (ld : Nat → Nat) (te : Nat → Nat) (pu : Nat → Nat) (day : Int32) (w : Nat → Int32) (g : Nat → Int32) (tr : Nat → Int32) (so : Nat → Int32) (v : Nat) (hn : n ≤ 7) (h1n : 1 ≤ n) (hm : m ≤ 9) (ht : ∀ i, i < m → te i < n ∧ pu i < n) (hB : Bd n w) (hv : v ≤ 60) : Ki V yX11_behind cX11_behind 4 .int ({ frames := 3, cells := 0, slots := 0, locals := 71 }) [.ref mm, .int (nI v), .int (-1)] [(mm, .inr (11, [.int le_, .ref mtx, .int po_, .ref mnu, .int fa_, .int rcl_, .int rle_, .ref mrc, .ref mrw, .ref mrl, .int (nI n), .ref mki, .ref mwa, .int (nI m), .ref mle, .ref mno, .ref mtr, .ref mse, .ref mba, .int ba_, .ref mim, .int km_, .int si_, .ref msi, .ref mfo, .int fm_, .ref mor, .ref mbo, .ref mma, .ref mbm, .ref mso])), (mki, .inl (V.2.2.1, 7, .inl k)), (mwa, .inl (V.2.2.1, 7, .inl wb)), (mle, .inl (V.2.2.1, 27, .inl (leF ld te pu))), (mno, .inl (V.2.2.1, 15, .inl (stF day w g))), (mtr, .inl (V.2.2.1, 15, .inl tr)), (mso, .inl (V.2.2.1, 7, .inl so))] (fun (r : Int32) (u : (Nat → Int32) × (Nat → Int32)) => r = midF n (daysF k wb ld te pu n m g day v w) + 600) (fun u => [(mm, .inr (11, [.int le_, .ref mtx, .int po_, .ref mnu, .int fa_, .int rcl_, .int rle_, .ref mrc, .ref mrw, .ref mrl, .int (nI n), .ref mki, .ref mwa, .int (nI m), .ref mle, .ref mno, .ref mtr, .ref mse, .ref mba, .int ba_, .ref mim, .int km_, .int si_, .ref msi, .ref mfo, .int fm_, .ref mor, .ref mbo, .ref mma, .ref mbm, .ref mso])), (mki, .inl (V.2.2.1, 7, .inl k)), (mwa, .inl (V.2.2.1, 7, .inl wb)), (mle, .inl (V.2.2.1, 27, .inl (leF ld te pu))), (mno, .inl (V.2.2.1, 15, .inl (stF day w g))), (mtr, .inl (V.2.2.1, 15, .inl u.1)), (mso, .inl (V.2.2.1, 7, .inl u.2))]) := by
  refine Ki.of [some (.ref mm), some (.int (nI v)), some (.int (-1)), none] (by decide) (Nat.le_of_ble_eq_true rfl) rfl rfl ?_
  intro Z X E
  have X : gX V Z RX11 cX11_behind 4 ({ frames := 3, cells := 0, slots := 0, locals := 71 }) := X
  refine g_iload_n X dX11_behind_0 rfl ?_
  refine g_iconst X (0) dX11_behind_1 (by decide) ?_
  refine g_bipush X (60) dX11_behind_2 (by decide) ?_
  refine g_callSi X (c_X11_in V (nI v) 0 60) mo_X11_in kl_X11_94 [] [0, 0, 0, 0, 0, 0, 0] rfl (by decide +kernel) rfl rfl (fun _ => Nat.le_of_ble_eq_true rfl) (As := [.int (nI v), .int 0, .int 60]) (st := []) (cs' := (0, 0)) rfl rfl rfl dX11_behind_4 (fun r_5 u_1 hp_2 ws_4 hw_3 => ?_)
  obtain rfl : r_5 = inF (nI v) 0 60 := hp_2
  have hw_3x : ws_4 = [(mm, .inr (11, [.int le_, .ref mtx, .int po_, .ref mnu, .int fa_, .int rcl_, .int rle_, .ref mrc, .ref mrw, .ref mrl, .int (nI n), .ref mki, .ref mwa, .int (nI m), .ref mle, .ref mno, .ref mtr, .ref mse, .ref mba, .int ba_, .ref mim, .int km_, .int si_, .ref msi, .ref mfo, .int fm_, .ref mor, .ref mbo, .ref mma, .ref mbm, .ref mso])), (mki, .inl (V.2.2.1, 7, .inl k)), (mwa, .inl (V.2.2.1, 7, .inl wb)), (mle, .inl (V.2.2.1, 27, .inl (leF ld te pu))), (mno, .inl (V.2.2.1, 15, .inl (stF day w g))), (mtr, .inl (V.2.2.1, 15, .inl tr)), (mso, .inl (V.2.2.1, 7, .inl so))] := hw_3.symm
  clear hw_3; subst hw_3x
  refine g_if_eq X 24 dX11_behind_7 (by decide) (fun c7_6 => absurd c7_6 (inF_ne (v := v) (lo := 0) (hi := 60) (by omega) (by omega))) (fun c7_6 => ?_)
  refine g_iload_n X dX11_behind_10 rfl ?_
  refine g_iconst X (-1) dX11_behind_11 (by decide) ?_
  refine g_aload_n X dX11_behind_12 rfl ?_
  refine g_get X uwX11 0 rfl rfl 10 (by decide) kl_X11_91 rfl rfl gwX11 dX11_behind_13 ?_
  refine g_iconst X (1) dX11_behind_16 (by decide) ?_
  refine g_isub X dX11_behind_17 ?_
  refine g_toe (x' := nI (n - 1)) (nI_sub' rfl rfl (by omega)) ?_
  refine g_callSi X (c_X11_in V (-1) (-1) (nI (n - 1))) mo_X11_in kl_X11_94 [] [0, 0, 0, 0, 0, 0, 0] rfl (by decide +kernel) rfl rfl (fun _ => Nat.le_of_ble_eq_true rfl) (As := [.int (-1), .int (-1), .int (nI (n - 1))]) (st := []) (cs' := (0, 0)) rfl rfl rfl dX11_behind_18 (fun r_11 u_7 hp_8 ws_10 hw_9 => ?_)
  obtain rfl : r_11 = inF (-1) (-1) (nI (n - 1)) := hp_8
  have hw_9x : ws_10 = [(mm, .inr (11, [.int le_, .ref mtx, .int po_, .ref mnu, .int fa_, .int rcl_, .int rle_, .ref mrc, .ref mrw, .ref mrl, .int (nI n), .ref mki, .ref mwa, .int (nI m), .ref mle, .ref mno, .ref mtr, .ref mse, .ref mba, .int ba_, .ref mim, .int km_, .int si_, .ref msi, .ref mfo, .int fm_, .ref mor, .ref mbo, .ref mma, .ref mbm, .ref mso])), (mki, .inl (V.2.2.1, 7, .inl k)), (mwa, .inl (V.2.2.1, 7, .inl wb)), (mle, .inl (V.2.2.1, 27, .inl (leF ld te pu))), (mno, .inl (V.2.2.1, 15, .inl (stF day w g))), (mtr, .inl (V.2.2.1, 15, .inl tr)), (mso, .inl (V.2.2.1, 7, .inl so))] := hw_9.symm
  clear hw_9; subst hw_9x
  refine g_if_ne X 26 dX11_behind_21 (by decide) (fun c21_12 => ?_) (fun c21_12 => absurd c21_12 (by rw [inF_1 (by decide) (inm1 h1n (by omega))]; decide))
  refine g_aload_n X dX11_behind_26 rfl ?_
  refine g_get X uwX11 0 rfl rfl 15 (by decide) kl_X11_34 rfl rfl gwX11 dX11_behind_27 ?_
  refine g_iconst X (0) dX11_behind_30 (by decide) ?_
  refine g_aload_n X dX11_behind_31 rfl ?_
  refine g_get X uwX11 0 rfl rfl 16 (by decide) kl_X11_37 rfl rfl gwX11 dX11_behind_32 ?_
  refine g_iconst X (0) dX11_behind_35 (by decide) ?_
  refine g_callSv X (c_X11_copy V mno 15 (stF day w g) mtr 15 tr 0 0 (by omega) (by omega) (by omega) (by omega)) mo_X11_copy kl_X11_165 [4, 5] [0, 0, 0, 0, 1, 2, 0] rfl (by decide +kernel) rfl rfl (fun _ => Nat.le_of_ble_eq_true rfl) (As := [.ref mno, .int 0, .ref mtr, .int 0]) (st := []) (cs' := (0, 0)) rfl rfl rfl dX11_behind_36 (fun u_13 hp_14 ws_16 hw_15 => ?_)
  have hw_15x : ws_16 = [(mm, .inr (11, [.int le_, .ref mtx, .int po_, .ref mnu, .int fa_, .int rcl_, .int rle_, .ref mrc, .ref mrw, .ref mrl, .int (nI n), .ref mki, .ref mwa, .int (nI m), .ref mle, .ref mno, .ref mtr, .ref mse, .ref mba, .int ba_, .ref mim, .int km_, .int si_, .ref msi, .ref mfo, .int fm_, .ref mor, .ref mbo, .ref mma, .ref mbm, .ref mso])), (mki, .inl (V.2.2.1, 7, .inl k)), (mwa, .inl (V.2.2.1, 7, .inl wb)), (mle, .inl (V.2.2.1, 27, .inl (leF ld te pu))), (mno, .inl (V.2.2.1, 15, .inl (stF day w g))), (mtr, .inl (V.2.2.1, 15, .inl (cpM 0 0 (stF day w g) tr))), (mso, .inl (V.2.2.1, 7, .inl so))] := hw_15.symm
  clear hw_15; subst hw_15x
  refine g_arr 5 (stF day w g) rfl cpM_0 (ws' := [(mm, .inr (11, [.int le_, .ref mtx, .int po_, .ref mnu, .int fa_, .int rcl_, .int rle_, .ref mrc, .ref mrw, .ref mrl, .int (nI n), .ref mki, .ref mwa, .int (nI m), .ref mle, .ref mno, .ref mtr, .ref mse, .ref mba, .int ba_, .ref mim, .int km_, .int si_, .ref msi, .ref mfo, .int fm_, .ref mor, .ref mbo, .ref mma, .ref mbm, .ref mso])), (mki, .inl (V.2.2.1, 7, .inl k)), (mwa, .inl (V.2.2.1, 7, .inl wb)), (mle, .inl (V.2.2.1, 27, .inl (leF ld te pu))), (mno, .inl (V.2.2.1, 15, .inl (stF day w g))), (mtr, .inl (V.2.2.1, 15, .inl (stF day w g))), (mso, .inl (V.2.2.1, 7, .inl so))]) rfl ?_
  refine g_iconst X (0) dX11_behind_39 (by decide) ?_
  refine g_istore_n X (L' := [some (.ref mm), some (.int (nI v)), some (.int (-1)), some (.int 0)]) dX11_behind_40 (by decide) rfl rfl ?_
  have loop41_18 : ∀ (d41 i : Nat), i + d41 = v → ∀ (dy : Int32) (w1 : Nat → Int32) (hB1 : Bd n w1) (h1 : w1 = daysF k wb ld te pu n m g day i w) (h2 : dy = day + nI i), G V Z 4 (0, 0) [(mm, .inr (11, [.int le_, .ref mtx, .int po_, .ref mnu, .int fa_, .int rcl_, .int rle_, .ref mrc, .ref mrw, .ref mrl, .int (nI n), .ref mki, .ref mwa, .int (nI m), .ref mle, .ref mno, .ref mtr, .ref mse, .ref mba, .int ba_, .ref mim, .int km_, .int si_, .ref msi, .ref mfo, .int fm_, .ref mor, .ref mbo, .ref mma, .ref mbm, .ref mso])), (mki, .inl (V.2.2.1, 7, .inl k)), (mwa, .inl (V.2.2.1, 7, .inl wb)), (mle, .inl (V.2.2.1, 27, .inl (leF ld te pu))), (mno, .inl (V.2.2.1, 15, .inl (stF day w g))), (mtr, .inl (V.2.2.1, 15, .inl (stF dy w1 g))), (mso, .inl (V.2.2.1, 7, .inl so))] 41 [some (.ref mm), some (.int (nI v)), some (.int (-1)), some (.int (nI i))] [] := by
    intro d41
    induction d41 with
    | zero =>
      intro i hi dy w1 hB1 h1 h2
      refine g_iload_n X dX11_behind_41 rfl ?_
      refine g_iload_n X dX11_behind_42 rfl ?_
      refine g_icmp_ge X 61 dX11_behind_43 (by decide) (fun c43_19 => ?_) (fun c43_19 => absurd (tge (a := i) (b := v) (by omega) (by omega) (by omega)) c43_19)
      refine g_iload_n X dX11_behind_61 rfl ?_
      refine g_if_ge X 76 dX11_behind_62 (by decide) (fun c62_20 => absurd c62_20 (by decide)) (fun c62_20 => ?_)
      refine g_aload_n X dX11_behind_65 rfl ?_
      refine g_aload_n X dX11_behind_66 rfl ?_
      refine g_get X uwX11 0 rfl rfl 16 (by decide) kl_X11_37 rfl rfl gwX11 dX11_behind_67 ?_
      refine g_callVi X (c_X11_noonOf V mm mtx mnu mrc mrw mrl mki mwa mle mno mtr mse mba mim msi mfo mor mbo mma mbm mso le_ po_ fa_ rcl_ rle_ n (nI m) ba_ km_ si_ fm_ so dy w1 g mtr (by omega) (by omega)) mo_X11_noonOf kl_X11_140 [0, 6, 5] [1, 0, 0, 0, 0, 3, 2] rfl (by decide +kernel) rfl rfl (fun _ => Nat.le_of_ble_eq_true rfl) 0 11 rfl rfl (As := [.ref mtr]) (st := []) (cs' := (0, 0)) rfl rfl rfl rfl dX11_behind_70 (fun r_25 ns_21 hp_22 ws_24 hw_23 => ?_)
      obtain rfl : r_25 = midF n w1 := hp_22
      have hw_23x : ws_24 = [(mm, .inr (11, [.int le_, .ref mtx, .int po_, .ref mnu, .int fa_, .int rcl_, .int rle_, .ref mrc, .ref mrw, .ref mrl, .int (nI n), .ref mki, .ref mwa, .int (nI m), .ref mle, .ref mno, .ref mtr, .ref mse, .ref mba, .int ba_, .ref mim, .int km_, .int si_, .ref msi, .ref mfo, .int fm_, .ref mor, .ref mbo, .ref mma, .ref mbm, .ref mso])), (mki, .inl (V.2.2.1, 7, .inl k)), (mwa, .inl (V.2.2.1, 7, .inl wb)), (mle, .inl (V.2.2.1, 27, .inl (leF ld te pu))), (mno, .inl (V.2.2.1, 15, .inl (stF day w g))), (mtr, .inl (V.2.2.1, 15, .inl (stF dy w1 g))), (mso, .inl (V.2.2.1, 7, .inl ns_21))] := hw_23.symm
      clear hw_23; subst hw_23x
      refine g_goto X 84 dX11_behind_73 (by decide) ?_
      refine g_sipush X (600) dX11_behind_84 (by decide) ?_
      refine g_iadd X dX11_behind_87 ?_
      exact g_iret X E dX11_behind_88 ⟨stF dy w1 g, ns_21⟩ ((midF n w1) + 600) (by have e : i = v := (by omega); subst e; rw [h1]) rfl
    | succ d41 ih41 =>
      intro i hi dy w1 hB1 h1 h2
      refine g_iload_n X dX11_behind_41 rfl ?_
      refine g_iload_n X dX11_behind_42 rfl ?_
      refine g_icmp_ge X 61 dX11_behind_43 (by decide) (fun c43_26 => absurd c43_26 (fge (a := i) (b := v) (by omega) (by omega) (by omega))) (fun c43_26 => ?_)
      refine g_aload_n X dX11_behind_46 rfl ?_
      refine g_aload_n X dX11_behind_47 rfl ?_
      refine g_get X uwX11 0 rfl rfl 16 (by decide) kl_X11_37 rfl rfl gwX11 dX11_behind_48 ?_
      refine g_iconst X (1) dX11_behind_51 (by decide) ?_
      refine g_callVv X (c_X11_passOn V mm mtx mnu mrc mrw mrl mki mwa mle mno mtr mse mba mim msi mfo mor mbo mma mbm mso le_ po_ fa_ rcl_ rle_ n m ba_ km_ si_ fm_ k wb ld te pu dy w1 g mtr 1 (by omega) (by omega) (by omega) ht hB1) mo_X11_passOn kl_X11_172 [0, 1, 2, 3, 5] [1, 2, 3, 4, 0, 5, 0] rfl (by decide +kernel) rfl rfl (fun _ => Nat.le_of_ble_eq_true rfl) 0 11 rfl rfl (As := [.ref mtr, .int 1]) (st := []) (cs' := (0, 0)) rfl rfl rfl rfl dX11_behind_52 (fun nw_27 hp_28 ws_30 hw_29 => ?_)
      obtain rfl : nw_27 = dayF k wb ld te pu n m g 1 dy w1 := hp_28
      have hw_29x : ws_30 = [(mm, .inr (11, [.int le_, .ref mtx, .int po_, .ref mnu, .int fa_, .int rcl_, .int rle_, .ref mrc, .ref mrw, .ref mrl, .int (nI n), .ref mki, .ref mwa, .int (nI m), .ref mle, .ref mno, .ref mtr, .ref mse, .ref mba, .int ba_, .ref mim, .int km_, .int si_, .ref msi, .ref mfo, .int fm_, .ref mor, .ref mbo, .ref mma, .ref mbm, .ref mso])), (mki, .inl (V.2.2.1, 7, .inl k)), (mwa, .inl (V.2.2.1, 7, .inl wb)), (mle, .inl (V.2.2.1, 27, .inl (leF ld te pu))), (mno, .inl (V.2.2.1, 15, .inl (stF day w g))), (mtr, .inl (V.2.2.1, 15, .inl (stF (dy + 1) (dayF k wb ld te pu n m g 1 dy w1) g))), (mso, .inl (V.2.2.1, 7, .inl so))] := hw_29.symm
      clear hw_29; subst hw_29x
      refine g_iinc X (v := nI (i + 1)) (L' := [some (.ref mm), some (.int (nI v)), some (.int (-1)), some (.int (nI (i + 1)))]) dX11_behind_55 rfl (nI_addk (by decide)) (by decide) rfl rfl ?_
      refine g_goto X 41 dX11_behind_58 (by decide) ?_
      exact ih41 (i + 1) (by omega) (dy + 1) (dayF k wb ld te pu n m g 1 dy w1) Bd_day (by rw [daysF, it_s, ← daysF, ← h1, ← h2]) (by rw [h2, Int32.add_assoc, nI_1])
  exact loop41_18 v 0 (by omega) day w hB rfl (by rw [nI_0, Int32.add_zero])

set_option maxHeartbeats 4000000 in
set_option maxRecDepth 100000 in
theorem w_behind_c (V : gV) (mm : Nat) (mtx : Nat) (mnu : Nat) (mrc : Nat) (mrw : Nat) (mrl : Nat) (mki : Nat) (mwa : Nat) (mle : Nat) (mno : Nat) (mtr : Nat) (mse : Nat) (mba : Nat) (mim : Nat) (msi : Nat) (mfo : Nat) (mor : Nat) (mbo : Nat) (mma : Nat) (mbm : Nat) (mso : Nat) (le_ : Int32) (po_ : Int32) (fa_ : Int32) (rcl_ : Int32) (rle_ : Int32) (n : Nat) (m : Nat) (ba_ : Int32) (km_ : Int32) (si_ : Int32) (fm_ : Int32) (k : Nat → Int32) (wb : Nat → Int32) (ld : Nat → Nat) (te : Nat → Nat) (pu : Nat → Nat) (day : Int32) (w : Nat → Int32) (g : Nat → Int32) (tr : Nat → Int32) (v : Nat) (c : Nat) (hn : n ≤ 7) (h1n : 1 ≤ n) (hm : m ≤ 9) (ht : ∀ i, i < m → te i < n ∧ pu i < n) (hB : Bd n w) (hv : v ≤ 60) (hc : c < n) : Ki V yX11_behind cX11_behind 4 .int ({ frames := 3, cells := 0, slots := 0, locals := 71 }) [.ref mm, .int (nI v), .int (nI c)] [(mm, .inr (11, [.int le_, .ref mtx, .int po_, .ref mnu, .int fa_, .int rcl_, .int rle_, .ref mrc, .ref mrw, .ref mrl, .int (nI n), .ref mki, .ref mwa, .int (nI m), .ref mle, .ref mno, .ref mtr, .ref mse, .ref mba, .int ba_, .ref mim, .int km_, .int si_, .ref msi, .ref mfo, .int fm_, .ref mor, .ref mbo, .ref mma, .ref mbm, .ref mso])), (mki, .inl (V.2.2.1, 7, .inl k)), (mwa, .inl (V.2.2.1, 7, .inl wb)), (mle, .inl (V.2.2.1, 27, .inl (leF ld te pu))), (mno, .inl (V.2.2.1, 15, .inl (stF day w g))), (mtr, .inl (V.2.2.1, 15, .inl tr))] (fun (r : Int32) (u : (Nat → Int32)) => r = daysF k wb ld te pu n m g day v w c + 600) (fun u => [(mm, .inr (11, [.int le_, .ref mtx, .int po_, .ref mnu, .int fa_, .int rcl_, .int rle_, .ref mrc, .ref mrw, .ref mrl, .int (nI n), .ref mki, .ref mwa, .int (nI m), .ref mle, .ref mno, .ref mtr, .ref mse, .ref mba, .int ba_, .ref mim, .int km_, .int si_, .ref msi, .ref mfo, .int fm_, .ref mor, .ref mbo, .ref mma, .ref mbm, .ref mso])), (mki, .inl (V.2.2.1, 7, .inl k)), (mwa, .inl (V.2.2.1, 7, .inl wb)), (mle, .inl (V.2.2.1, 27, .inl (leF ld te pu))), (mno, .inl (V.2.2.1, 15, .inl (stF day w g))), (mtr, .inl (V.2.2.1, 15, .inl u))]) := by
  refine Ki.of [some (.ref mm), some (.int (nI v)), some (.int (nI c)), none] (by decide) (Nat.le_of_ble_eq_true rfl) rfl rfl ?_
  intro Z X E
  have X : gX V Z RX11 cX11_behind 4 ({ frames := 3, cells := 0, slots := 0, locals := 71 }) := X
  refine g_iload_n X dX11_behind_0 rfl ?_
  refine g_iconst X (0) dX11_behind_1 (by decide) ?_
  refine g_bipush X (60) dX11_behind_2 (by decide) ?_
  refine g_callSi X (c_X11_in V (nI v) 0 60) mo_X11_in kl_X11_94 [] [0, 0, 0, 0, 0, 0] rfl (by decide +kernel) rfl rfl (fun _ => Nat.le_of_ble_eq_true rfl) (As := [.int (nI v), .int 0, .int 60]) (st := []) (cs' := (0, 0)) rfl rfl rfl dX11_behind_4 (fun r_5 u_1 hp_2 ws_4 hw_3 => ?_)
  obtain rfl : r_5 = inF (nI v) 0 60 := hp_2
  have hw_3x : ws_4 = [(mm, .inr (11, [.int le_, .ref mtx, .int po_, .ref mnu, .int fa_, .int rcl_, .int rle_, .ref mrc, .ref mrw, .ref mrl, .int (nI n), .ref mki, .ref mwa, .int (nI m), .ref mle, .ref mno, .ref mtr, .ref mse, .ref mba, .int ba_, .ref mim, .int km_, .int si_, .ref msi, .ref mfo, .int fm_, .ref mor, .ref mbo, .ref mma, .ref mbm, .ref mso])), (mki, .inl (V.2.2.1, 7, .inl k)), (mwa, .inl (V.2.2.1, 7, .inl wb)), (mle, .inl (V.2.2.1, 27, .inl (leF ld te pu))), (mno, .inl (V.2.2.1, 15, .inl (stF day w g))), (mtr, .inl (V.2.2.1, 15, .inl tr))] := hw_3.symm
  clear hw_3; subst hw_3x
  refine g_if_eq X 24 dX11_behind_7 (by decide) (fun c7_6 => absurd c7_6 (inF_ne (v := v) (lo := 0) (hi := 60) (by omega) (by omega))) (fun c7_6 => ?_)
  refine g_iload_n X dX11_behind_10 rfl ?_
  refine g_iconst X (-1) dX11_behind_11 (by decide) ?_
  refine g_aload_n X dX11_behind_12 rfl ?_
  refine g_get X uwX11 0 rfl rfl 10 (by decide) kl_X11_91 rfl rfl gwX11 dX11_behind_13 ?_
  refine g_iconst X (1) dX11_behind_16 (by decide) ?_
  refine g_isub X dX11_behind_17 ?_
  refine g_toe (x' := nI (n - 1)) (nI_sub' rfl rfl (by omega)) ?_
  refine g_callSi X (c_X11_in V (nI c) (-1) (nI (n - 1))) mo_X11_in kl_X11_94 [] [0, 0, 0, 0, 0, 0] rfl (by decide +kernel) rfl rfl (fun _ => Nat.le_of_ble_eq_true rfl) (As := [.int (nI c), .int (-1), .int (nI (n - 1))]) (st := []) (cs' := (0, 0)) rfl rfl rfl dX11_behind_18 (fun r_11 u_7 hp_8 ws_10 hw_9 => ?_)
  obtain rfl : r_11 = inF (nI c) (-1) (nI (n - 1)) := hp_8
  have hw_9x : ws_10 = [(mm, .inr (11, [.int le_, .ref mtx, .int po_, .ref mnu, .int fa_, .int rcl_, .int rle_, .ref mrc, .ref mrw, .ref mrl, .int (nI n), .ref mki, .ref mwa, .int (nI m), .ref mle, .ref mno, .ref mtr, .ref mse, .ref mba, .int ba_, .ref mim, .int km_, .int si_, .ref msi, .ref mfo, .int fm_, .ref mor, .ref mbo, .ref mma, .ref mbm, .ref mso])), (mki, .inl (V.2.2.1, 7, .inl k)), (mwa, .inl (V.2.2.1, 7, .inl wb)), (mle, .inl (V.2.2.1, 27, .inl (leF ld te pu))), (mno, .inl (V.2.2.1, 15, .inl (stF day w g))), (mtr, .inl (V.2.2.1, 15, .inl tr))] := hw_9.symm
  clear hw_9; subst hw_9x
  refine g_if_ne X 26 dX11_behind_21 (by decide) (fun c21_12 => ?_) (fun c21_12 => absurd c21_12 (by rw [inF_1 ((innn c).resolve_right (by omega)) (flt (by omega) (by omega) (by omega))]; decide))
  refine g_aload_n X dX11_behind_26 rfl ?_
  refine g_get X uwX11 0 rfl rfl 15 (by decide) kl_X11_34 rfl rfl gwX11 dX11_behind_27 ?_
  refine g_iconst X (0) dX11_behind_30 (by decide) ?_
  refine g_aload_n X dX11_behind_31 rfl ?_
  refine g_get X uwX11 0 rfl rfl 16 (by decide) kl_X11_37 rfl rfl gwX11 dX11_behind_32 ?_
  refine g_iconst X (0) dX11_behind_35 (by decide) ?_
  refine g_callSv X (c_X11_copy V mno 15 (stF day w g) mtr 15 tr 0 0 (by omega) (by omega) (by omega) (by omega)) mo_X11_copy kl_X11_165 [4, 5] [0, 0, 0, 0, 1, 2] rfl (by decide +kernel) rfl rfl (fun _ => Nat.le_of_ble_eq_true rfl) (As := [.ref mno, .int 0, .ref mtr, .int 0]) (st := []) (cs' := (0, 0)) rfl rfl rfl dX11_behind_36 (fun u_13 hp_14 ws_16 hw_15 => ?_)
  have hw_15x : ws_16 = [(mm, .inr (11, [.int le_, .ref mtx, .int po_, .ref mnu, .int fa_, .int rcl_, .int rle_, .ref mrc, .ref mrw, .ref mrl, .int (nI n), .ref mki, .ref mwa, .int (nI m), .ref mle, .ref mno, .ref mtr, .ref mse, .ref mba, .int ba_, .ref mim, .int km_, .int si_, .ref msi, .ref mfo, .int fm_, .ref mor, .ref mbo, .ref mma, .ref mbm, .ref mso])), (mki, .inl (V.2.2.1, 7, .inl k)), (mwa, .inl (V.2.2.1, 7, .inl wb)), (mle, .inl (V.2.2.1, 27, .inl (leF ld te pu))), (mno, .inl (V.2.2.1, 15, .inl (stF day w g))), (mtr, .inl (V.2.2.1, 15, .inl (cpM 0 0 (stF day w g) tr)))] := hw_15.symm
  clear hw_15; subst hw_15x
  refine g_arr 5 (stF day w g) rfl cpM_0 (ws' := [(mm, .inr (11, [.int le_, .ref mtx, .int po_, .ref mnu, .int fa_, .int rcl_, .int rle_, .ref mrc, .ref mrw, .ref mrl, .int (nI n), .ref mki, .ref mwa, .int (nI m), .ref mle, .ref mno, .ref mtr, .ref mse, .ref mba, .int ba_, .ref mim, .int km_, .int si_, .ref msi, .ref mfo, .int fm_, .ref mor, .ref mbo, .ref mma, .ref mbm, .ref mso])), (mki, .inl (V.2.2.1, 7, .inl k)), (mwa, .inl (V.2.2.1, 7, .inl wb)), (mle, .inl (V.2.2.1, 27, .inl (leF ld te pu))), (mno, .inl (V.2.2.1, 15, .inl (stF day w g))), (mtr, .inl (V.2.2.1, 15, .inl (stF day w g)))]) rfl ?_
  refine g_iconst X (0) dX11_behind_39 (by decide) ?_
  refine g_istore_n X (L' := [some (.ref mm), some (.int (nI v)), some (.int (nI c)), some (.int 0)]) dX11_behind_40 (by decide) rfl rfl ?_
  have loop41_18 : ∀ (d41 i : Nat), i + d41 = v → ∀ (dy : Int32) (w1 : Nat → Int32) (hB1 : Bd n w1) (h1 : w1 = daysF k wb ld te pu n m g day i w) (h2 : dy = day + nI i), G V Z 4 (0, 0) [(mm, .inr (11, [.int le_, .ref mtx, .int po_, .ref mnu, .int fa_, .int rcl_, .int rle_, .ref mrc, .ref mrw, .ref mrl, .int (nI n), .ref mki, .ref mwa, .int (nI m), .ref mle, .ref mno, .ref mtr, .ref mse, .ref mba, .int ba_, .ref mim, .int km_, .int si_, .ref msi, .ref mfo, .int fm_, .ref mor, .ref mbo, .ref mma, .ref mbm, .ref mso])), (mki, .inl (V.2.2.1, 7, .inl k)), (mwa, .inl (V.2.2.1, 7, .inl wb)), (mle, .inl (V.2.2.1, 27, .inl (leF ld te pu))), (mno, .inl (V.2.2.1, 15, .inl (stF day w g))), (mtr, .inl (V.2.2.1, 15, .inl (stF dy w1 g)))] 41 [some (.ref mm), some (.int (nI v)), some (.int (nI c)), some (.int (nI i))] [] := by
    intro d41
    induction d41 with
    | zero =>
      intro i hi dy w1 hB1 h1 h2
      refine g_iload_n X dX11_behind_41 rfl ?_
      refine g_iload_n X dX11_behind_42 rfl ?_
      refine g_icmp_ge X 61 dX11_behind_43 (by decide) (fun c43_19 => ?_) (fun c43_19 => absurd (tge (a := i) (b := v) (by omega) (by omega) (by omega)) c43_19)
      refine g_iload_n X dX11_behind_61 rfl ?_
      refine g_if_ge X 76 dX11_behind_62 (by decide) (fun c62_20 => ?_) (fun c62_20 => absurd (tge (a := c) (b := 0) (by omega) (by omega) (by omega)) c62_20)
      refine g_aload_n X dX11_behind_76 rfl ?_
      refine g_get X uwX11 0 rfl rfl 16 (by decide) kl_X11_37 rfl rfl gwX11 dX11_behind_77 ?_
      refine g_iconst X (1) dX11_behind_80 (by decide) ?_
      refine g_iload_n X dX11_behind_81 rfl ?_
      refine g_iadd X dX11_behind_82 ?_
      refine g_toe (x' := nI (1 + c)) (nI_add' rfl rfl) ?_
      refine g_iald' X 5 rfl (i := (1 + c)) rfl (by omega) (by omega) dX11_behind_83 ?_
      refine g_toe (x' := w1 c) (stF_w _ _ _ c (by omega)) ?_
      refine g_sipush X (600) dX11_behind_84 (by decide) ?_
      refine g_iadd X dX11_behind_87 ?_
      exact g_iret X E dX11_behind_88 (stF dy w1 g) ((w1 c) + 600) (by have e : i = v := (by omega); subst e; rw [h1]) rfl
    | succ d41 ih41 =>
      intro i hi dy w1 hB1 h1 h2
      refine g_iload_n X dX11_behind_41 rfl ?_
      refine g_iload_n X dX11_behind_42 rfl ?_
      refine g_icmp_ge X 61 dX11_behind_43 (by decide) (fun c43_21 => absurd c43_21 (fge (a := i) (b := v) (by omega) (by omega) (by omega))) (fun c43_21 => ?_)
      refine g_aload_n X dX11_behind_46 rfl ?_
      refine g_aload_n X dX11_behind_47 rfl ?_
      refine g_get X uwX11 0 rfl rfl 16 (by decide) kl_X11_37 rfl rfl gwX11 dX11_behind_48 ?_
      refine g_iconst X (1) dX11_behind_51 (by decide) ?_
      refine g_callVv X (c_X11_passOn V mm mtx mnu mrc mrw mrl mki mwa mle mno mtr mse mba mim msi mfo mor mbo mma mbm mso le_ po_ fa_ rcl_ rle_ n m ba_ km_ si_ fm_ k wb ld te pu dy w1 g mtr 1 (by omega) (by omega) (by omega) ht hB1) mo_X11_passOn kl_X11_172 [0, 1, 2, 3, 5] [1, 2, 3, 4, 0, 5] rfl (by decide +kernel) rfl rfl (fun _ => Nat.le_of_ble_eq_true rfl) 0 11 rfl rfl (As := [.ref mtr, .int 1]) (st := []) (cs' := (0, 0)) rfl rfl rfl rfl dX11_behind_52 (fun nw_22 hp_23 ws_25 hw_24 => ?_)
      obtain rfl : nw_22 = dayF k wb ld te pu n m g 1 dy w1 := hp_23
      have hw_24x : ws_25 = [(mm, .inr (11, [.int le_, .ref mtx, .int po_, .ref mnu, .int fa_, .int rcl_, .int rle_, .ref mrc, .ref mrw, .ref mrl, .int (nI n), .ref mki, .ref mwa, .int (nI m), .ref mle, .ref mno, .ref mtr, .ref mse, .ref mba, .int ba_, .ref mim, .int km_, .int si_, .ref msi, .ref mfo, .int fm_, .ref mor, .ref mbo, .ref mma, .ref mbm, .ref mso])), (mki, .inl (V.2.2.1, 7, .inl k)), (mwa, .inl (V.2.2.1, 7, .inl wb)), (mle, .inl (V.2.2.1, 27, .inl (leF ld te pu))), (mno, .inl (V.2.2.1, 15, .inl (stF day w g))), (mtr, .inl (V.2.2.1, 15, .inl (stF (dy + 1) (dayF k wb ld te pu n m g 1 dy w1) g)))] := hw_24.symm
      clear hw_24; subst hw_24x
      refine g_iinc X (v := nI (i + 1)) (L' := [some (.ref mm), some (.int (nI v)), some (.int (nI c)), some (.int (nI (i + 1)))]) dX11_behind_55 rfl (nI_addk (by decide)) (by decide) rfl rfl ?_
      refine g_goto X 41 dX11_behind_58 (by decide) ?_
      exact ih41 (i + 1) (by omega) (dy + 1) (dayF k wb ld te pu n m g 1 dy w1) Bd_day (by rw [daysF, it_s, ← daysF, ← h1, ← h2]) (by rw [h2, Int32.add_assoc, nI_1])
  exact loop41_18 v 0 (by omega) day w hB rfl (by rw [nI_0, Int32.add_zero])

set_option maxHeartbeats 4000000 in
set_option maxRecDepth 100000 in
theorem w_hear_bad (V : gV) (mm : Nat) (mtx : Nat) (mnu : Nat) (mrc : Nat) (mrw : Nat) (mrl : Nat) (mki : Nat) (mwa : Nat) (mle : Nat) (mno : Nat) (mtr : Nat) (mse : Nat) (mba : Nat) (mim : Nat) (msi : Nat) (mfo : Nat) (mor : Nat) (mbo : Nat) (mma : Nat) (mbm : Nat) (mso : Nat) (le_ : Int32) (po_ : Int32) (fa_ : Int32) (rcl_ : Int32) (rle_ : Int32) (n : Nat) (ls_ : Int32) (ba_ : Int32) (km_ : Int32) (si_ : Int32) (fm_ : Int32) (c : Int32) (v : Int32) (hn : n ≤ 7) (h1n : 1 ≤ n) (hbad : ¬ (okC n c ∧ ¬ v < 0 ∧ v ≤ 1200)) : Ki V yX11_hear cX11_hear 3 .int ({ frames := 2, cells := 0, slots := 0, locals := 43 }) [.ref mm, .int c, .int v] [(mm, .inr (11, [.int le_, .ref mtx, .int po_, .ref mnu, .int fa_, .int rcl_, .int rle_, .ref mrc, .ref mrw, .ref mrl, .int (nI n), .ref mki, .ref mwa, .int ls_, .ref mle, .ref mno, .ref mtr, .ref mse, .ref mba, .int ba_, .ref mim, .int km_, .int si_, .ref msi, .ref mfo, .int fm_, .ref mor, .ref mbo, .ref mma, .ref mbm, .ref mso]))] (fun (r : Int32) (u : Unit) => r = -1) (fun u => [(mm, .inr (11, [.int le_, .ref mtx, .int po_, .ref mnu, .int fa_, .int rcl_, .int rle_, .ref mrc, .ref mrw, .ref mrl, .int (nI n), .ref mki, .ref mwa, .int ls_, .ref mle, .ref mno, .ref mtr, .ref mse, .ref mba, .int ba_, .ref mim, .int km_, .int si_, .ref msi, .ref mfo, .int fm_, .ref mor, .ref mbo, .ref mma, .ref mbm, .ref mso]))]) := by
  refine Ki.of [some (.ref mm), some (.int c), some (.int v)] (by decide) (Nat.le_of_ble_eq_true rfl) rfl rfl ?_
  intro Z X E
  have X : gX V Z RX11 cX11_hear 3 ({ frames := 2, cells := 0, slots := 0, locals := 43 }) := X
  refine g_aload_n X dX11_hear_0 rfl ?_
  refine g_iload_n X dX11_hear_1 rfl ?_
  refine g_callVi X (c_X11_isClock V mm mtx mnu mrc mrw mrl mki mwa mle mno mtr mse mba mim msi mfo mor mbo mma mbm mso le_ po_ fa_ rcl_ rle_ n ls_ ba_ km_ si_ fm_ c (by omega) (by omega)) mo_X11_isClock kl_X11_134 [0] [1] rfl (by decide +kernel) rfl rfl (fun _ => Nat.le_of_ble_eq_true rfl) 0 11 rfl rfl (As := [.int c]) (st := []) (cs' := (0, 0)) rfl rfl rfl rfl dX11_hear_2 (fun r_5 u_1 hp_2 ws_4 hw_3 => ?_)
  obtain rfl : r_5 = (if okC n c then 1 else 0) := hp_2
  have hw_3x : ws_4 = [(mm, .inr (11, [.int le_, .ref mtx, .int po_, .ref mnu, .int fa_, .int rcl_, .int rle_, .ref mrc, .ref mrw, .ref mrl, .int (nI n), .ref mki, .ref mwa, .int ls_, .ref mle, .ref mno, .ref mtr, .ref mse, .ref mba, .int ba_, .ref mim, .int km_, .int si_, .ref msi, .ref mfo, .int fm_, .ref mor, .ref mbo, .ref mma, .ref mbm, .ref mso]))] := hw_3.symm
  clear hw_3; subst hw_3x
  refine g_if_eq X 19 dX11_hear_5 (by decide) (fun c5_6 => ?_) (fun c5_6 => ?_)
  · refine g_iconst X (-1) dX11_hear_19 (by decide) ?_
    exact g_iret X E dX11_hear_20 () (-1) (by first | rfl | (simp [c5_6]; done)) rfl
  · refine g_iload_n X dX11_hear_8 rfl ?_
    refine g_iconst X (0) dX11_hear_9 (by decide) ?_
    refine g_sipush X (1200) dX11_hear_10 (by decide) ?_
    refine g_callSi X (c_X11_in V v 0 1200) mo_X11_in kl_X11_94 [] [0] rfl (by decide +kernel) rfl rfl (fun _ => Nat.le_of_ble_eq_true rfl) (As := [.int v, .int 0, .int 1200]) (st := []) (cs' := (0, 0)) rfl rfl rfl dX11_hear_13 (fun r_11 u_7 hp_8 ws_10 hw_9 => ?_)
    obtain rfl : r_11 = inF v 0 1200 := hp_8
    have hw_9x : ws_10 = [(mm, .inr (11, [.int le_, .ref mtx, .int po_, .ref mnu, .int fa_, .int rcl_, .int rle_, .ref mrc, .ref mrw, .ref mrl, .int (nI n), .ref mki, .ref mwa, .int ls_, .ref mle, .ref mno, .ref mtr, .ref mse, .ref mba, .int ba_, .ref mim, .int km_, .int si_, .ref msi, .ref mfo, .int fm_, .ref mor, .ref mbo, .ref mma, .ref mbm, .ref mso]))] := hw_9.symm
    clear hw_9; subst hw_9x
    refine g_if_ne X 21 dX11_hear_16 (by decide) (fun c16_12 => ?_) (fun c16_12 => ?_)
    · exact absurd ⟨(by have z := c5_6; by_cases q9 : okC n c; exact q9; rw [if_neg q9] at z; exact absurd rfl z), (inF_of c16_12).1, Int32.not_lt.mp (inF_of c16_12).2⟩ hbad
    · refine g_iconst X (-1) dX11_hear_19 (by decide) ?_
      exact g_iret X E dX11_hear_20 () (-1) (by first | rfl | (simp [c5_6, c16_12]; done)) rfl

set_option maxHeartbeats 4000000 in
set_option maxRecDepth 100000 in
theorem w_hear_full (V : gV) (mm : Nat) (mtx : Nat) (mnu : Nat) (mrc : Nat) (mrw : Nat) (mrl : Nat) (mki : Nat) (mwa : Nat) (mle : Nat) (mno : Nat) (mtr : Nat) (mse : Nat) (mba : Nat) (mim : Nat) (msi : Nat) (mfo : Nat) (mor : Nat) (mbo : Nat) (mma : Nat) (mbm : Nat) (mso : Nat) (le_ : Int32) (po_ : Int32) (fa_ : Int32) (rcl_ : Int32) (rle_ : Int32) (n : Nat) (ls_ : Int32) (ba_ : Int32) (km_ : Int32) (z : Nat) (fm_ : Int32) (c : Nat) (v : Int32) (hn : n ≤ 7) (h1n : 1 ≤ n) (hc : c < n) (h1 : ¬ v < 0) (h2 : v ≤ 1200) (hz : z = 6) : Ki V yX11_hear cX11_hear 3 .int ({ frames := 2, cells := 0, slots := 0, locals := 43 }) [.ref mm, .int (nI c), .int v] [(mm, .inr (11, [.int le_, .ref mtx, .int po_, .ref mnu, .int fa_, .int rcl_, .int rle_, .ref mrc, .ref mrw, .ref mrl, .int (nI n), .ref mki, .ref mwa, .int ls_, .ref mle, .ref mno, .ref mtr, .ref mse, .ref mba, .int ba_, .ref mim, .int km_, .int (nI z), .ref msi, .ref mfo, .int fm_, .ref mor, .ref mbo, .ref mma, .ref mbm, .ref mso]))] (fun (r : Int32) (u : Unit) => r = -3) (fun u => [(mm, .inr (11, [.int le_, .ref mtx, .int po_, .ref mnu, .int fa_, .int rcl_, .int rle_, .ref mrc, .ref mrw, .ref mrl, .int (nI n), .ref mki, .ref mwa, .int ls_, .ref mle, .ref mno, .ref mtr, .ref mse, .ref mba, .int ba_, .ref mim, .int km_, .int (nI z), .ref msi, .ref mfo, .int fm_, .ref mor, .ref mbo, .ref mma, .ref mbm, .ref mso]))]) := by
  refine Ki.of [some (.ref mm), some (.int (nI c)), some (.int v)] (by decide) (Nat.le_of_ble_eq_true rfl) rfl rfl ?_
  intro Z X E
  have X : gX V Z RX11 cX11_hear 3 ({ frames := 2, cells := 0, slots := 0, locals := 43 }) := X
  refine g_aload_n X dX11_hear_0 rfl ?_
  refine g_iload_n X dX11_hear_1 rfl ?_
  refine g_callVi X (c_X11_isClock V mm mtx mnu mrc mrw mrl mki mwa mle mno mtr mse mba mim msi mfo mor mbo mma mbm mso le_ po_ fa_ rcl_ rle_ n ls_ ba_ km_ (nI z) fm_ (nI c) (by omega) (by omega)) mo_X11_isClock kl_X11_134 [0] [1] rfl (by decide +kernel) rfl rfl (fun _ => Nat.le_of_ble_eq_true rfl) 0 11 rfl rfl (As := [.int (nI c)]) (st := []) (cs' := (0, 0)) rfl rfl rfl rfl dX11_hear_2 (fun r_5 u_1 hp_2 ws_4 hw_3 => ?_)
  obtain rfl : r_5 = (if okC n (nI c) then 1 else 0) := hp_2
  have hw_3x : ws_4 = [(mm, .inr (11, [.int le_, .ref mtx, .int po_, .ref mnu, .int fa_, .int rcl_, .int rle_, .ref mrc, .ref mrw, .ref mrl, .int (nI n), .ref mki, .ref mwa, .int ls_, .ref mle, .ref mno, .ref mtr, .ref mse, .ref mba, .int ba_, .ref mim, .int km_, .int (nI z), .ref msi, .ref mfo, .int fm_, .ref mor, .ref mbo, .ref mma, .ref mbm, .ref mso]))] := hw_3.symm
  clear hw_3; subst hw_3x
  refine g_if_eq X 19 dX11_hear_5 (by decide) (fun c5_6 => absurd c5_6 (by rw [if_pos (okC_nI hc (by omega))]; decide)) (fun c5_6 => ?_)
  refine g_iload_n X dX11_hear_8 rfl ?_
  refine g_iconst X (0) dX11_hear_9 (by decide) ?_
  refine g_sipush X (1200) dX11_hear_10 (by decide) ?_
  refine g_callSi X (c_X11_in V v 0 1200) mo_X11_in kl_X11_94 [] [0] rfl (by decide +kernel) rfl rfl (fun _ => Nat.le_of_ble_eq_true rfl) (As := [.int v, .int 0, .int 1200]) (st := []) (cs' := (0, 0)) rfl rfl rfl dX11_hear_13 (fun r_11 u_7 hp_8 ws_10 hw_9 => ?_)
  obtain rfl : r_11 = inF v 0 1200 := hp_8
  have hw_9x : ws_10 = [(mm, .inr (11, [.int le_, .ref mtx, .int po_, .ref mnu, .int fa_, .int rcl_, .int rle_, .ref mrc, .ref mrw, .ref mrl, .int (nI n), .ref mki, .ref mwa, .int ls_, .ref mle, .ref mno, .ref mtr, .ref mse, .ref mba, .int ba_, .ref mim, .int km_, .int (nI z), .ref msi, .ref mfo, .int fm_, .ref mor, .ref mbo, .ref mma, .ref mbm, .ref mso]))] := hw_9.symm
  clear hw_9; subst hw_9x
  refine g_if_ne X 21 dX11_hear_16 (by decide) (fun c16_12 => ?_) (fun c16_12 => absurd c16_12 (by rw [inF_1 h1 (Int32.not_lt.mpr h2)]; decide))
  refine g_aload_n X dX11_hear_21 rfl ?_
  refine g_get X uwX11 0 rfl rfl 22 (by decide) kl_X11_131 rfl rfl gwX11 dX11_hear_22 ?_
  refine g_bipush X (6) dX11_hear_25 (by decide) ?_
  refine g_icmp_ne X 33 dX11_hear_27 (by decide) (fun c27_13 => absurd (teq (a := z) (b := 6) (by omega) (by omega) (by omega)) c27_13) (fun c27_13 => ?_)
  refine g_bipush X (-3) dX11_hear_30 (by decide) ?_
  exact g_iret X E dX11_hear_32 () (-3) (by first | rfl | (simp [c5_6, c16_12, c27_13]; done)) rfl

set_option maxHeartbeats 4000000 in
set_option maxRecDepth 100000 in
theorem w_hear_ok (V : gV) (mm : Nat) (mtx : Nat) (mnu : Nat) (mrc : Nat) (mrw : Nat) (mrl : Nat) (mki : Nat) (mwa : Nat) (mle : Nat) (mno : Nat) (mtr : Nat) (mse : Nat) (mba : Nat) (mim : Nat) (msi : Nat) (mfo : Nat) (mor : Nat) (mbo : Nat) (mma : Nat) (mbm : Nat) (mso : Nat) (le_ : Int32) (po_ : Int32) (fa_ : Int32) (rcl_ : Int32) (rle_ : Int32) (n : Nat) (ls_ : Int32) (ba_ : Int32) (km_ : Int32) (z : Nat) (fm_ : Int32) (rc : Nat → Nat) (rm : Nat → Int32) (c : Nat) (v : Int32) (hn : n ≤ 7) (h1n : 1 ≤ n) (hc : c < n) (h1 : ¬ v < 0) (h2 : v ≤ 1200) (hz : z < 6) : Ki V yX11_hear cX11_hear 3 .int ({ frames := 2, cells := 0, slots := 0, locals := 43 }) [.ref mm, .int (nI c), .int v] [(mm, .inr (11, [.int le_, .ref mtx, .int po_, .ref mnu, .int fa_, .int rcl_, .int rle_, .ref mrc, .ref mrw, .ref mrl, .int (nI n), .ref mki, .ref mwa, .int ls_, .ref mle, .ref mno, .ref mtr, .ref mse, .ref mba, .int ba_, .ref mim, .int km_, .int (nI z), .ref msi, .ref mfo, .int fm_, .ref mor, .ref mbo, .ref mma, .ref mbm, .ref mso])), (msi, .inl (V.2.2.1, 12, .inl (siF rc rm)))] (fun (r : Int32) (u : Unit) => r = nI (z + 1)) (fun u => [(mm, .inr (11, [.int le_, .ref mtx, .int po_, .ref mnu, .int fa_, .int rcl_, .int rle_, .ref mrc, .ref mrw, .ref mrl, .int (nI n), .ref mki, .ref mwa, .int ls_, .ref mle, .ref mno, .ref mtr, .ref mse, .ref mba, .int ba_, .ref mim, .int km_, .int (nI (z + 1)), .ref msi, .ref mfo, .int fm_, .ref mor, .ref mbo, .ref mma, .ref mbm, .ref mso])), (msi, .inl (V.2.2.1, 12, .inl (siF (updN rc z c) (upd rm z (v - 600)))))]) := by
  refine Ki.of [some (.ref mm), some (.int (nI c)), some (.int v)] (by decide) (Nat.le_of_ble_eq_true rfl) rfl rfl ?_
  intro Z X E
  have X : gX V Z RX11 cX11_hear 3 ({ frames := 2, cells := 0, slots := 0, locals := 43 }) := X
  refine g_aload_n X dX11_hear_0 rfl ?_
  refine g_iload_n X dX11_hear_1 rfl ?_
  refine g_callVi X (c_X11_isClock V mm mtx mnu mrc mrw mrl mki mwa mle mno mtr mse mba mim msi mfo mor mbo mma mbm mso le_ po_ fa_ rcl_ rle_ n ls_ ba_ km_ (nI z) fm_ (nI c) (by omega) (by omega)) mo_X11_isClock kl_X11_134 [0] [1, 0] rfl (by decide +kernel) rfl rfl (fun _ => Nat.le_of_ble_eq_true rfl) 0 11 rfl rfl (As := [.int (nI c)]) (st := []) (cs' := (0, 0)) rfl rfl rfl rfl dX11_hear_2 (fun r_5 u_1 hp_2 ws_4 hw_3 => ?_)
  obtain rfl : r_5 = (if okC n (nI c) then 1 else 0) := hp_2
  have hw_3x : ws_4 = [(mm, .inr (11, [.int le_, .ref mtx, .int po_, .ref mnu, .int fa_, .int rcl_, .int rle_, .ref mrc, .ref mrw, .ref mrl, .int (nI n), .ref mki, .ref mwa, .int ls_, .ref mle, .ref mno, .ref mtr, .ref mse, .ref mba, .int ba_, .ref mim, .int km_, .int (nI z), .ref msi, .ref mfo, .int fm_, .ref mor, .ref mbo, .ref mma, .ref mbm, .ref mso])), (msi, .inl (V.2.2.1, 12, .inl (siF rc rm)))] := hw_3.symm
  clear hw_3; subst hw_3x
  refine g_if_eq X 19 dX11_hear_5 (by decide) (fun c5_6 => absurd c5_6 (by rw [if_pos (okC_nI hc (by omega))]; decide)) (fun c5_6 => ?_)
  refine g_iload_n X dX11_hear_8 rfl ?_
  refine g_iconst X (0) dX11_hear_9 (by decide) ?_
  refine g_sipush X (1200) dX11_hear_10 (by decide) ?_
  refine g_callSi X (c_X11_in V v 0 1200) mo_X11_in kl_X11_94 [] [0, 0] rfl (by decide +kernel) rfl rfl (fun _ => Nat.le_of_ble_eq_true rfl) (As := [.int v, .int 0, .int 1200]) (st := []) (cs' := (0, 0)) rfl rfl rfl dX11_hear_13 (fun r_11 u_7 hp_8 ws_10 hw_9 => ?_)
  obtain rfl : r_11 = inF v 0 1200 := hp_8
  have hw_9x : ws_10 = [(mm, .inr (11, [.int le_, .ref mtx, .int po_, .ref mnu, .int fa_, .int rcl_, .int rle_, .ref mrc, .ref mrw, .ref mrl, .int (nI n), .ref mki, .ref mwa, .int ls_, .ref mle, .ref mno, .ref mtr, .ref mse, .ref mba, .int ba_, .ref mim, .int km_, .int (nI z), .ref msi, .ref mfo, .int fm_, .ref mor, .ref mbo, .ref mma, .ref mbm, .ref mso])), (msi, .inl (V.2.2.1, 12, .inl (siF rc rm)))] := hw_9.symm
  clear hw_9; subst hw_9x
  refine g_if_ne X 21 dX11_hear_16 (by decide) (fun c16_12 => ?_) (fun c16_12 => absurd c16_12 (by rw [inF_1 h1 (Int32.not_lt.mpr h2)]; decide))
  refine g_aload_n X dX11_hear_21 rfl ?_
  refine g_get X uwX11 0 rfl rfl 22 (by decide) kl_X11_131 rfl rfl gwX11 dX11_hear_22 ?_
  refine g_bipush X (6) dX11_hear_25 (by decide) ?_
  refine g_icmp_ne X 33 dX11_hear_27 (by decide) (fun c27_13 => ?_) (fun c27_13 => absurd c27_13 (tne (a := z) (b := 6) (by omega) (by omega) (by omega)))
  refine g_aload_n X dX11_hear_33 rfl ?_
  refine g_get X uwX11 0 rfl rfl 23 (by decide) kl_X11_49 rfl rfl gwX11 dX11_hear_34 ?_
  refine g_iconst X (2) dX11_hear_37 (by decide) ?_
  refine g_aload_n X dX11_hear_38 rfl ?_
  refine g_get X uwX11 0 rfl rfl 22 (by decide) kl_X11_131 rfl rfl gwX11 dX11_hear_39 ?_
  refine g_imul X dX11_hear_42 ?_
  refine g_toe (x' := nI (2 * z)) (nI_mul' rfl rfl) ?_
  refine g_iload_n X dX11_hear_43 rfl ?_
  refine g_iast' X 1 rfl (i := (2 * z)) rfl (by omega) (by omega) (ws' := [(mm, .inr (11, [.int le_, .ref mtx, .int po_, .ref mnu, .int fa_, .int rcl_, .int rle_, .ref mrc, .ref mrw, .ref mrl, .int (nI n), .ref mki, .ref mwa, .int ls_, .ref mle, .ref mno, .ref mtr, .ref mse, .ref mba, .int ba_, .ref mim, .int km_, .int (nI z), .ref msi, .ref mfo, .int fm_, .ref mor, .ref mbo, .ref mma, .ref mbm, .ref mso])), (msi, .inl (V.2.2.1, 12, .inl (upd (siF rc rm) (2 * z) (nI c))))]) rfl dX11_hear_44 ?_
  refine g_arr 1 (siF (updN rc z c) rm) rfl (siF_u0 _ _ z c 12) (ws' := [(mm, .inr (11, [.int le_, .ref mtx, .int po_, .ref mnu, .int fa_, .int rcl_, .int rle_, .ref mrc, .ref mrw, .ref mrl, .int (nI n), .ref mki, .ref mwa, .int ls_, .ref mle, .ref mno, .ref mtr, .ref mse, .ref mba, .int ba_, .ref mim, .int km_, .int (nI z), .ref msi, .ref mfo, .int fm_, .ref mor, .ref mbo, .ref mma, .ref mbm, .ref mso])), (msi, .inl (V.2.2.1, 12, .inl (siF (updN rc z c) rm)))]) rfl ?_
  refine g_aload_n X dX11_hear_45 rfl ?_
  refine g_get X uwX11 0 rfl rfl 23 (by decide) kl_X11_49 rfl rfl gwX11 dX11_hear_46 ?_
  refine g_iconst X (2) dX11_hear_49 (by decide) ?_
  refine g_aload_n X dX11_hear_50 rfl ?_
  refine g_get X uwX11 0 rfl rfl 22 (by decide) kl_X11_131 rfl rfl gwX11 dX11_hear_51 ?_
  refine g_imul X dX11_hear_54 ?_
  refine g_toe (x' := nI (2 * z)) (nI_mul' rfl rfl) ?_
  refine g_iconst X (1) dX11_hear_55 (by decide) ?_
  refine g_iadd X dX11_hear_56 ?_
  refine g_toe (x' := nI (2 * z + 1)) (nI_add' rfl rfl) ?_
  refine g_iload_n X dX11_hear_57 rfl ?_
  refine g_sipush X (600) dX11_hear_58 (by decide) ?_
  refine g_isub X dX11_hear_61 ?_
  refine g_iast' X 1 rfl (i := (2 * z + 1)) rfl (by omega) (by omega) (ws' := [(mm, .inr (11, [.int le_, .ref mtx, .int po_, .ref mnu, .int fa_, .int rcl_, .int rle_, .ref mrc, .ref mrw, .ref mrl, .int (nI n), .ref mki, .ref mwa, .int ls_, .ref mle, .ref mno, .ref mtr, .ref mse, .ref mba, .int ba_, .ref mim, .int km_, .int (nI z), .ref msi, .ref mfo, .int fm_, .ref mor, .ref mbo, .ref mma, .ref mbm, .ref mso])), (msi, .inl (V.2.2.1, 12, .inl (upd (siF (updN rc z c) rm) (2 * z + 1) (v - 600))))]) rfl dX11_hear_62 ?_
  refine g_arr 1 (siF (updN rc z c) (upd rm z (v - 600))) rfl (siF_u1 _ _ z 12 _) (ws' := [(mm, .inr (11, [.int le_, .ref mtx, .int po_, .ref mnu, .int fa_, .int rcl_, .int rle_, .ref mrc, .ref mrw, .ref mrl, .int (nI n), .ref mki, .ref mwa, .int ls_, .ref mle, .ref mno, .ref mtr, .ref mse, .ref mba, .int ba_, .ref mim, .int km_, .int (nI z), .ref msi, .ref mfo, .int fm_, .ref mor, .ref mbo, .ref mma, .ref mbm, .ref mso])), (msi, .inl (V.2.2.1, 12, .inl (siF (updN rc z c) (upd rm z (v - 600)))))]) rfl ?_
  refine g_aload_n X dX11_hear_63 rfl ?_
  refine g_dup X dX11_hear_64 rfl ?_
  refine g_get X uwX11 0 rfl rfl 22 (by decide) kl_X11_131 rfl rfl gwX11 dX11_hear_65 ?_
  refine g_iconst X (1) dX11_hear_68 (by decide) ?_
  refine g_iadd X dX11_hear_69 ?_
  refine g_toe (x' := nI (z + 1)) (nI_add' rfl rfl) ?_
  refine g_put X uwX11 tyX11 tyX11_ok nmX11 0 rfl rfl 22 (by decide) kl_X11_131 rfl rfl rfl rfl (Nat.le_of_ble_eq_true rfl) gwX11 (ws' := [(mm, .inr (11, [.int le_, .ref mtx, .int po_, .ref mnu, .int fa_, .int rcl_, .int rle_, .ref mrc, .ref mrw, .ref mrl, .int (nI n), .ref mki, .ref mwa, .int ls_, .ref mle, .ref mno, .ref mtr, .ref mse, .ref mba, .int ba_, .ref mim, .int km_, .int (nI (z + 1)), .ref msi, .ref mfo, .int fm_, .ref mor, .ref mbo, .ref mma, .ref mbm, .ref mso])), (msi, .inl (V.2.2.1, 12, .inl (siF (updN rc z c) (upd rm z (v - 600)))))]) rfl dX11_hear_70 ?_
  refine g_aload_n X dX11_hear_73 rfl ?_
  refine g_get X uwX11 0 rfl rfl 22 (by decide) kl_X11_131 rfl rfl gwX11 dX11_hear_74 ?_
  exact g_iret X E dX11_hear_77 () (nI (z + 1)) (by first | rfl | (simp [c5_6, c16_12, c27_13]; done)) rfl

set_option maxHeartbeats 4000000 in
set_option maxRecDepth 100000 in
theorem w_count_0 (V : gV) (mm : Nat) (mtx : Nat) (mnu : Nat) (mrc : Nat) (mrw : Nat) (mrl : Nat) (mki : Nat) (mwa : Nat) (mle : Nat) (mno : Nat) (mtr : Nat) (mse : Nat) (mba : Nat) (mim : Nat) (msi : Nat) (mfo : Nat) (mor : Nat) (mbo : Nat) (mma : Nat) (mbm : Nat) (mso : Nat) (le_ : Int32) (po_ : Int32) (fa_ : Int32) (rcl_ : Int32) (rle_ : Int32) (n : Nat) (ls_ : Int32) (ba_ : Int32) (km_ : Int32) (si_ : Int32) (fm_ : Int32) (wb : Nat → Int32) (hn : n ≤ 7) : Ki V yX11_count cX11_count 4 .int ({ frames := 1, cells := 0, slots := 0, locals := 22 }) [.ref mm, .int 0] [(mm, .inr (11, [.int le_, .ref mtx, .int po_, .ref mnu, .int fa_, .int rcl_, .int rle_, .ref mrc, .ref mrw, .ref mrl, .int (nI n), .ref mki, .ref mwa, .int ls_, .ref mle, .ref mno, .ref mtr, .ref mse, .ref mba, .int ba_, .ref mim, .int km_, .int si_, .ref msi, .ref mfo, .int fm_, .ref mor, .ref mbo, .ref mma, .ref mbm, .ref mso])), (mwa, .inl (V.2.2.1, 7, .inl wb))] (fun (r : Int32) (u : Unit) => r = nI n) (fun u => [(mm, .inr (11, [.int le_, .ref mtx, .int po_, .ref mnu, .int fa_, .int rcl_, .int rle_, .ref mrc, .ref mrw, .ref mrl, .int (nI n), .ref mki, .ref mwa, .int ls_, .ref mle, .ref mno, .ref mtr, .ref mse, .ref mba, .int ba_, .ref mim, .int km_, .int si_, .ref msi, .ref mfo, .int fm_, .ref mor, .ref mbo, .ref mma, .ref mbm, .ref mso])), (mwa, .inl (V.2.2.1, 7, .inl wb))]) := by
  refine Ki.of [some (.ref mm), some (.int 0), none, none] (by decide) (Nat.le_of_ble_eq_true rfl) rfl rfl ?_
  intro Z X E
  have X : gX V Z RX11 cX11_count 4 ({ frames := 1, cells := 0, slots := 0, locals := 22 }) := X
  refine g_iconst X (0) dX11_count_0 (by decide) ?_
  refine g_istore_n X (L' := [some (.ref mm), some (.int 0), some (.int 0), none]) dX11_count_1 (by decide) rfl rfl ?_
  refine g_iconst X (0) dX11_count_2 (by decide) ?_
  refine g_istore_n X (L' := [some (.ref mm), some (.int 0), some (.int 0), some (.int 0)]) dX11_count_3 (by decide) rfl rfl ?_
  have loop4 : ∀ (d4 c : Nat), c + d4 = n → ∀ (tw : Int32) (h1 : tw = it (fun c s => s + bitsM (wb c)) c 0), G V Z 4 (0, 0) [(mm, .inr (11, [.int le_, .ref mtx, .int po_, .ref mnu, .int fa_, .int rcl_, .int rle_, .ref mrc, .ref mrw, .ref mrl, .int (nI n), .ref mki, .ref mwa, .int ls_, .ref mle, .ref mno, .ref mtr, .ref mse, .ref mba, .int ba_, .ref mim, .int km_, .int si_, .ref msi, .ref mfo, .int fm_, .ref mor, .ref mbo, .ref mma, .ref mbm, .ref mso])), (mwa, .inl (V.2.2.1, 7, .inl wb))] 4 [some (.ref mm), some (.int 0), some (.int tw), some (.int (nI c))] [] := by
    intro d4
    induction d4 with
    | zero =>
      intro c hc tw h1
      refine g_iload_n X dX11_count_4 rfl ?_
      refine g_aload_n X dX11_count_5 rfl ?_
      refine g_get X uwX11 0 rfl rfl 10 (by decide) kl_X11_91 rfl rfl gwX11 dX11_count_6 ?_
      refine g_icmp_ge X 30 dX11_count_9 (by decide) (fun c9_1 => ?_) (fun c9_1 => absurd (tge (a := c) (b := n) (by omega) (by omega) (by omega)) c9_1)
      refine g_iload_n X dX11_count_30 rfl ?_
      refine g_tableIn X 80 dX11_count_31 (off := 49) (by decide) (by decide) (by decide) (by decide) ?_
      refine g_aload_n X dX11_count_80 rfl ?_
      refine g_get X uwX11 0 rfl rfl 10 (by decide) kl_X11_91 rfl rfl gwX11 dX11_count_81 ?_
      exact g_iret X E dX11_count_84 () (nI n) (by first | rfl | (simp [c9_1]; done)) rfl
    | succ d4 ih4 =>
      intro c hc tw h1
      refine g_iload_n X dX11_count_4 rfl ?_
      refine g_aload_n X dX11_count_5 rfl ?_
      refine g_get X uwX11 0 rfl rfl 10 (by decide) kl_X11_91 rfl rfl gwX11 dX11_count_6 ?_
      refine g_icmp_ge X 30 dX11_count_9 (by decide) (fun c9_2 => absurd c9_2 (fge (a := c) (b := n) (by omega) (by omega) (by omega))) (fun c9_2 => ?_)
      refine g_iload_n X dX11_count_12 rfl ?_
      refine g_aload_n X dX11_count_13 rfl ?_
      refine g_get X uwX11 0 rfl rfl 12 (by decide) kl_X11_28 rfl rfl gwX11 dX11_count_14 ?_
      refine g_iload_n X dX11_count_17 rfl ?_
      refine g_iald' X 1 rfl (i := c) rfl (by omega) (by omega) dX11_count_18 ?_
      refine g_callSi X (c_X11_bits V (wb c)) mo_X11_bits kl_X11_137 [] [0, 0] rfl (by decide +kernel) rfl rfl (fun _ => Nat.le_of_ble_eq_true rfl) (As := [.int (wb c)]) (st := [.int tw]) (cs' := (0, 0)) rfl rfl rfl dX11_count_19 (fun r_7 u_3 hp_4 ws_6 hw_5 => ?_)
      obtain rfl : r_7 = bitsM (wb c) := hp_4
      have hw_5x : ws_6 = [(mm, .inr (11, [.int le_, .ref mtx, .int po_, .ref mnu, .int fa_, .int rcl_, .int rle_, .ref mrc, .ref mrw, .ref mrl, .int (nI n), .ref mki, .ref mwa, .int ls_, .ref mle, .ref mno, .ref mtr, .ref mse, .ref mba, .int ba_, .ref mim, .int km_, .int si_, .ref msi, .ref mfo, .int fm_, .ref mor, .ref mbo, .ref mma, .ref mbm, .ref mso])), (mwa, .inl (V.2.2.1, 7, .inl wb))] := hw_5.symm
      clear hw_5; subst hw_5x
      refine g_iadd X dX11_count_22 ?_
      refine g_istore_n X (L' := [some (.ref mm), some (.int 0), some (.int (tw + (bitsM (wb c)))), some (.int (nI c))]) dX11_count_23 (by decide) rfl rfl ?_
      refine g_iinc X (v := nI (c + 1)) (L' := [some (.ref mm), some (.int 0), some (.int (tw + (bitsM (wb c)))), some (.int (nI (c + 1)))]) dX11_count_24 rfl (nI_addk (by decide)) (by decide) rfl rfl ?_
      refine g_goto X 4 dX11_count_27 (by decide) ?_
      exact ih4 (c + 1) (by omega) (tw + (bitsM (wb c))) (by rw [it_s, ← h1])
  exact loop4 n 0 (by omega) 0 rfl

set_option maxHeartbeats 4000000 in
set_option maxRecDepth 100000 in
theorem w_count_1 (V : gV) (mm : Nat) (mtx : Nat) (mnu : Nat) (mrc : Nat) (mrw : Nat) (mrl : Nat) (mki : Nat) (mwa : Nat) (mle : Nat) (mno : Nat) (mtr : Nat) (mse : Nat) (mba : Nat) (mim : Nat) (msi : Nat) (mfo : Nat) (mor : Nat) (mbo : Nat) (mma : Nat) (mbm : Nat) (mso : Nat) (le_ : Int32) (po_ : Int32) (fa_ : Int32) (rcl_ : Int32) (rle_ : Int32) (n : Nat) (ls_ : Int32) (ba_ : Int32) (km_ : Int32) (si_ : Int32) (fm_ : Int32) (wb : Nat → Int32) (hn : n ≤ 7) : Ki V yX11_count cX11_count 4 .int ({ frames := 1, cells := 0, slots := 0, locals := 22 }) [.ref mm, .int 1] [(mm, .inr (11, [.int le_, .ref mtx, .int po_, .ref mnu, .int fa_, .int rcl_, .int rle_, .ref mrc, .ref mrw, .ref mrl, .int (nI n), .ref mki, .ref mwa, .int ls_, .ref mle, .ref mno, .ref mtr, .ref mse, .ref mba, .int ba_, .ref mim, .int km_, .int si_, .ref msi, .ref mfo, .int fm_, .ref mor, .ref mbo, .ref mma, .ref mbm, .ref mso])), (mwa, .inl (V.2.2.1, 7, .inl wb))] (fun (r : Int32) (u : Unit) => r = twoM n wb) (fun u => [(mm, .inr (11, [.int le_, .ref mtx, .int po_, .ref mnu, .int fa_, .int rcl_, .int rle_, .ref mrc, .ref mrw, .ref mrl, .int (nI n), .ref mki, .ref mwa, .int ls_, .ref mle, .ref mno, .ref mtr, .ref mse, .ref mba, .int ba_, .ref mim, .int km_, .int si_, .ref msi, .ref mfo, .int fm_, .ref mor, .ref mbo, .ref mma, .ref mbm, .ref mso])), (mwa, .inl (V.2.2.1, 7, .inl wb))]) := by
  refine Ki.of [some (.ref mm), some (.int 1), none, none] (by decide) (Nat.le_of_ble_eq_true rfl) rfl rfl ?_
  intro Z X E
  have X : gX V Z RX11 cX11_count 4 ({ frames := 1, cells := 0, slots := 0, locals := 22 }) := X
  refine g_iconst X (0) dX11_count_0 (by decide) ?_
  refine g_istore_n X (L' := [some (.ref mm), some (.int 1), some (.int 0), none]) dX11_count_1 (by decide) rfl rfl ?_
  refine g_iconst X (0) dX11_count_2 (by decide) ?_
  refine g_istore_n X (L' := [some (.ref mm), some (.int 1), some (.int 0), some (.int 0)]) dX11_count_3 (by decide) rfl rfl ?_
  have loop4 : ∀ (d4 c : Nat), c + d4 = n → ∀ (tw : Int32) (h1 : tw = it (fun c s => s + bitsM (wb c)) c 0), G V Z 4 (0, 0) [(mm, .inr (11, [.int le_, .ref mtx, .int po_, .ref mnu, .int fa_, .int rcl_, .int rle_, .ref mrc, .ref mrw, .ref mrl, .int (nI n), .ref mki, .ref mwa, .int ls_, .ref mle, .ref mno, .ref mtr, .ref mse, .ref mba, .int ba_, .ref mim, .int km_, .int si_, .ref msi, .ref mfo, .int fm_, .ref mor, .ref mbo, .ref mma, .ref mbm, .ref mso])), (mwa, .inl (V.2.2.1, 7, .inl wb))] 4 [some (.ref mm), some (.int 1), some (.int tw), some (.int (nI c))] [] := by
    intro d4
    induction d4 with
    | zero =>
      intro c hc tw h1
      refine g_iload_n X dX11_count_4 rfl ?_
      refine g_aload_n X dX11_count_5 rfl ?_
      refine g_get X uwX11 0 rfl rfl 10 (by decide) kl_X11_91 rfl rfl gwX11 dX11_count_6 ?_
      refine g_icmp_ge X 30 dX11_count_9 (by decide) (fun c9_1 => ?_) (fun c9_1 => absurd (tge (a := c) (b := n) (by omega) (by omega) (by omega)) c9_1)
      refine g_iload_n X dX11_count_30 rfl ?_
      refine g_tableIn X 85 dX11_count_31 (off := 54) (by decide) (by decide) (by decide) (by decide) ?_
      refine g_iload_n X dX11_count_85 rfl ?_
      refine g_iconst X (2) dX11_count_86 (by decide) ?_
      refine g_idiv X dX11_count_87 (by decide) ?_
      exact g_iret X E dX11_count_88 () (tw / 2) (by have e : c = n := (by omega); subst e; rw [h1]; rfl) rfl
    | succ d4 ih4 =>
      intro c hc tw h1
      refine g_iload_n X dX11_count_4 rfl ?_
      refine g_aload_n X dX11_count_5 rfl ?_
      refine g_get X uwX11 0 rfl rfl 10 (by decide) kl_X11_91 rfl rfl gwX11 dX11_count_6 ?_
      refine g_icmp_ge X 30 dX11_count_9 (by decide) (fun c9_2 => absurd c9_2 (fge (a := c) (b := n) (by omega) (by omega) (by omega))) (fun c9_2 => ?_)
      refine g_iload_n X dX11_count_12 rfl ?_
      refine g_aload_n X dX11_count_13 rfl ?_
      refine g_get X uwX11 0 rfl rfl 12 (by decide) kl_X11_28 rfl rfl gwX11 dX11_count_14 ?_
      refine g_iload_n X dX11_count_17 rfl ?_
      refine g_iald' X 1 rfl (i := c) rfl (by omega) (by omega) dX11_count_18 ?_
      refine g_callSi X (c_X11_bits V (wb c)) mo_X11_bits kl_X11_137 [] [0, 0] rfl (by decide +kernel) rfl rfl (fun _ => Nat.le_of_ble_eq_true rfl) (As := [.int (wb c)]) (st := [.int tw]) (cs' := (0, 0)) rfl rfl rfl dX11_count_19 (fun r_7 u_3 hp_4 ws_6 hw_5 => ?_)
      obtain rfl : r_7 = bitsM (wb c) := hp_4
      have hw_5x : ws_6 = [(mm, .inr (11, [.int le_, .ref mtx, .int po_, .ref mnu, .int fa_, .int rcl_, .int rle_, .ref mrc, .ref mrw, .ref mrl, .int (nI n), .ref mki, .ref mwa, .int ls_, .ref mle, .ref mno, .ref mtr, .ref mse, .ref mba, .int ba_, .ref mim, .int km_, .int si_, .ref msi, .ref mfo, .int fm_, .ref mor, .ref mbo, .ref mma, .ref mbm, .ref mso])), (mwa, .inl (V.2.2.1, 7, .inl wb))] := hw_5.symm
      clear hw_5; subst hw_5x
      refine g_iadd X dX11_count_22 ?_
      refine g_istore_n X (L' := [some (.ref mm), some (.int 1), some (.int (tw + (bitsM (wb c)))), some (.int (nI c))]) dX11_count_23 (by decide) rfl rfl ?_
      refine g_iinc X (v := nI (c + 1)) (L' := [some (.ref mm), some (.int 1), some (.int (tw + (bitsM (wb c)))), some (.int (nI (c + 1)))]) dX11_count_24 rfl (nI_addk (by decide)) (by decide) rfl rfl ?_
      refine g_goto X 4 dX11_count_27 (by decide) ?_
      exact ih4 (c + 1) (by omega) (tw + (bitsM (wb c))) (by rw [it_s, ← h1])
  exact loop4 n 0 (by omega) 0 rfl

set_option maxHeartbeats 4000000 in
set_option maxRecDepth 100000 in
theorem w_count_2 (V : gV) (mm : Nat) (mtx : Nat) (mnu : Nat) (mrc : Nat) (mrw : Nat) (mrl : Nat) (mki : Nat) (mwa : Nat) (mle : Nat) (mno : Nat) (mtr : Nat) (mse : Nat) (mba : Nat) (mim : Nat) (msi : Nat) (mfo : Nat) (mor : Nat) (mbo : Nat) (mma : Nat) (mbm : Nat) (mso : Nat) (le_ : Int32) (po_ : Int32) (fa_ : Int32) (rcl_ : Int32) (rle_ : Int32) (n : Nat) (m : Nat) (ba_ : Int32) (km_ : Int32) (si_ : Int32) (fm_ : Int32) (wb : Nat → Int32) (hn : n ≤ 7) : Ki V yX11_count cX11_count 4 .int ({ frames := 1, cells := 0, slots := 0, locals := 22 }) [.ref mm, .int 2] [(mm, .inr (11, [.int le_, .ref mtx, .int po_, .ref mnu, .int fa_, .int rcl_, .int rle_, .ref mrc, .ref mrw, .ref mrl, .int (nI n), .ref mki, .ref mwa, .int (nI m), .ref mle, .ref mno, .ref mtr, .ref mse, .ref mba, .int ba_, .ref mim, .int km_, .int si_, .ref msi, .ref mfo, .int fm_, .ref mor, .ref mbo, .ref mma, .ref mbm, .ref mso])), (mwa, .inl (V.2.2.1, 7, .inl wb))] (fun (r : Int32) (u : Unit) => r = nI m) (fun u => [(mm, .inr (11, [.int le_, .ref mtx, .int po_, .ref mnu, .int fa_, .int rcl_, .int rle_, .ref mrc, .ref mrw, .ref mrl, .int (nI n), .ref mki, .ref mwa, .int (nI m), .ref mle, .ref mno, .ref mtr, .ref mse, .ref mba, .int ba_, .ref mim, .int km_, .int si_, .ref msi, .ref mfo, .int fm_, .ref mor, .ref mbo, .ref mma, .ref mbm, .ref mso])), (mwa, .inl (V.2.2.1, 7, .inl wb))]) := by
  refine Ki.of [some (.ref mm), some (.int 2), none, none] (by decide) (Nat.le_of_ble_eq_true rfl) rfl rfl ?_
  intro Z X E
  have X : gX V Z RX11 cX11_count 4 ({ frames := 1, cells := 0, slots := 0, locals := 22 }) := X
  refine g_iconst X (0) dX11_count_0 (by decide) ?_
  refine g_istore_n X (L' := [some (.ref mm), some (.int 2), some (.int 0), none]) dX11_count_1 (by decide) rfl rfl ?_
  refine g_iconst X (0) dX11_count_2 (by decide) ?_
  refine g_istore_n X (L' := [some (.ref mm), some (.int 2), some (.int 0), some (.int 0)]) dX11_count_3 (by decide) rfl rfl ?_
  have loop4 : ∀ (d4 c : Nat), c + d4 = n → ∀ (tw : Int32) (h1 : tw = it (fun c s => s + bitsM (wb c)) c 0), G V Z 4 (0, 0) [(mm, .inr (11, [.int le_, .ref mtx, .int po_, .ref mnu, .int fa_, .int rcl_, .int rle_, .ref mrc, .ref mrw, .ref mrl, .int (nI n), .ref mki, .ref mwa, .int (nI m), .ref mle, .ref mno, .ref mtr, .ref mse, .ref mba, .int ba_, .ref mim, .int km_, .int si_, .ref msi, .ref mfo, .int fm_, .ref mor, .ref mbo, .ref mma, .ref mbm, .ref mso])), (mwa, .inl (V.2.2.1, 7, .inl wb))] 4 [some (.ref mm), some (.int 2), some (.int tw), some (.int (nI c))] [] := by
    intro d4
    induction d4 with
    | zero =>
      intro c hc tw h1
      refine g_iload_n X dX11_count_4 rfl ?_
      refine g_aload_n X dX11_count_5 rfl ?_
      refine g_get X uwX11 0 rfl rfl 10 (by decide) kl_X11_91 rfl rfl gwX11 dX11_count_6 ?_
      refine g_icmp_ge X 30 dX11_count_9 (by decide) (fun c9_1 => ?_) (fun c9_1 => absurd (tge (a := c) (b := n) (by omega) (by omega) (by omega)) c9_1)
      refine g_iload_n X dX11_count_30 rfl ?_
      refine g_tableIn X 89 dX11_count_31 (off := 58) (by decide) (by decide) (by decide) (by decide) ?_
      refine g_aload_n X dX11_count_89 rfl ?_
      refine g_get X uwX11 0 rfl rfl 13 (by decide) kl_X11_122 rfl rfl gwX11 dX11_count_90 ?_
      exact g_iret X E dX11_count_93 () (nI m) (by first | rfl | (simp [c9_1]; done)) rfl
    | succ d4 ih4 =>
      intro c hc tw h1
      refine g_iload_n X dX11_count_4 rfl ?_
      refine g_aload_n X dX11_count_5 rfl ?_
      refine g_get X uwX11 0 rfl rfl 10 (by decide) kl_X11_91 rfl rfl gwX11 dX11_count_6 ?_
      refine g_icmp_ge X 30 dX11_count_9 (by decide) (fun c9_2 => absurd c9_2 (fge (a := c) (b := n) (by omega) (by omega) (by omega))) (fun c9_2 => ?_)
      refine g_iload_n X dX11_count_12 rfl ?_
      refine g_aload_n X dX11_count_13 rfl ?_
      refine g_get X uwX11 0 rfl rfl 12 (by decide) kl_X11_28 rfl rfl gwX11 dX11_count_14 ?_
      refine g_iload_n X dX11_count_17 rfl ?_
      refine g_iald' X 1 rfl (i := c) rfl (by omega) (by omega) dX11_count_18 ?_
      refine g_callSi X (c_X11_bits V (wb c)) mo_X11_bits kl_X11_137 [] [0, 0] rfl (by decide +kernel) rfl rfl (fun _ => Nat.le_of_ble_eq_true rfl) (As := [.int (wb c)]) (st := [.int tw]) (cs' := (0, 0)) rfl rfl rfl dX11_count_19 (fun r_7 u_3 hp_4 ws_6 hw_5 => ?_)
      obtain rfl : r_7 = bitsM (wb c) := hp_4
      have hw_5x : ws_6 = [(mm, .inr (11, [.int le_, .ref mtx, .int po_, .ref mnu, .int fa_, .int rcl_, .int rle_, .ref mrc, .ref mrw, .ref mrl, .int (nI n), .ref mki, .ref mwa, .int (nI m), .ref mle, .ref mno, .ref mtr, .ref mse, .ref mba, .int ba_, .ref mim, .int km_, .int si_, .ref msi, .ref mfo, .int fm_, .ref mor, .ref mbo, .ref mma, .ref mbm, .ref mso])), (mwa, .inl (V.2.2.1, 7, .inl wb))] := hw_5.symm
      clear hw_5; subst hw_5x
      refine g_iadd X dX11_count_22 ?_
      refine g_istore_n X (L' := [some (.ref mm), some (.int 2), some (.int (tw + (bitsM (wb c)))), some (.int (nI c))]) dX11_count_23 (by decide) rfl rfl ?_
      refine g_iinc X (v := nI (c + 1)) (L' := [some (.ref mm), some (.int 2), some (.int (tw + (bitsM (wb c)))), some (.int (nI (c + 1)))]) dX11_count_24 rfl (nI_addk (by decide)) (by decide) rfl rfl ?_
      refine g_goto X 4 dX11_count_27 (by decide) ?_
      exact ih4 (c + 1) (by omega) (tw + (bitsM (wb c))) (by rw [it_s, ← h1])
  exact loop4 n 0 (by omega) 0 rfl

set_option maxHeartbeats 4000000 in
set_option maxRecDepth 100000 in
theorem w_count_3 (V : gV) (mm : Nat) (mtx : Nat) (mnu : Nat) (mrc : Nat) (mrw : Nat) (mrl : Nat) (mki : Nat) (mwa : Nat) (mle : Nat) (mno : Nat) (mtr : Nat) (mse : Nat) (mba : Nat) (mim : Nat) (msi : Nat) (mfo : Nat) (mor : Nat) (mbo : Nat) (mma : Nat) (mbm : Nat) (mso : Nat) (le_ : Int32) (po_ : Int32) (fa_ : Int32) (rcl_ : Int32) (rle_ : Int32) (n : Nat) (ls_ : Int32) (ba_ : Int32) (km_ : Int32) (si_ : Int32) (fm_ : Int32) (wb : Nat → Int32) (day : Int32) (w : Nat → Int32) (g : Nat → Int32) (hn : n ≤ 7) : Ki V yX11_count cX11_count 4 .int ({ frames := 1, cells := 0, slots := 0, locals := 22 }) [.ref mm, .int 3] [(mm, .inr (11, [.int le_, .ref mtx, .int po_, .ref mnu, .int fa_, .int rcl_, .int rle_, .ref mrc, .ref mrw, .ref mrl, .int (nI n), .ref mki, .ref mwa, .int ls_, .ref mle, .ref mno, .ref mtr, .ref mse, .ref mba, .int ba_, .ref mim, .int km_, .int si_, .ref msi, .ref mfo, .int fm_, .ref mor, .ref mbo, .ref mma, .ref mbm, .ref mso])), (mwa, .inl (V.2.2.1, 7, .inl wb)), (mno, .inl (V.2.2.1, 15, .inl (stF day w g)))] (fun (r : Int32) (u : Unit) => r = day) (fun u => [(mm, .inr (11, [.int le_, .ref mtx, .int po_, .ref mnu, .int fa_, .int rcl_, .int rle_, .ref mrc, .ref mrw, .ref mrl, .int (nI n), .ref mki, .ref mwa, .int ls_, .ref mle, .ref mno, .ref mtr, .ref mse, .ref mba, .int ba_, .ref mim, .int km_, .int si_, .ref msi, .ref mfo, .int fm_, .ref mor, .ref mbo, .ref mma, .ref mbm, .ref mso])), (mwa, .inl (V.2.2.1, 7, .inl wb)), (mno, .inl (V.2.2.1, 15, .inl (stF day w g)))]) := by
  refine Ki.of [some (.ref mm), some (.int 3), none, none] (by decide) (Nat.le_of_ble_eq_true rfl) rfl rfl ?_
  intro Z X E
  have X : gX V Z RX11 cX11_count 4 ({ frames := 1, cells := 0, slots := 0, locals := 22 }) := X
  refine g_iconst X (0) dX11_count_0 (by decide) ?_
  refine g_istore_n X (L' := [some (.ref mm), some (.int 3), some (.int 0), none]) dX11_count_1 (by decide) rfl rfl ?_
  refine g_iconst X (0) dX11_count_2 (by decide) ?_
  refine g_istore_n X (L' := [some (.ref mm), some (.int 3), some (.int 0), some (.int 0)]) dX11_count_3 (by decide) rfl rfl ?_
  have loop4 : ∀ (d4 c : Nat), c + d4 = n → ∀ (tw : Int32) (h1 : tw = it (fun c s => s + bitsM (wb c)) c 0), G V Z 4 (0, 0) [(mm, .inr (11, [.int le_, .ref mtx, .int po_, .ref mnu, .int fa_, .int rcl_, .int rle_, .ref mrc, .ref mrw, .ref mrl, .int (nI n), .ref mki, .ref mwa, .int ls_, .ref mle, .ref mno, .ref mtr, .ref mse, .ref mba, .int ba_, .ref mim, .int km_, .int si_, .ref msi, .ref mfo, .int fm_, .ref mor, .ref mbo, .ref mma, .ref mbm, .ref mso])), (mwa, .inl (V.2.2.1, 7, .inl wb)), (mno, .inl (V.2.2.1, 15, .inl (stF day w g)))] 4 [some (.ref mm), some (.int 3), some (.int tw), some (.int (nI c))] [] := by
    intro d4
    induction d4 with
    | zero =>
      intro c hc tw h1
      refine g_iload_n X dX11_count_4 rfl ?_
      refine g_aload_n X dX11_count_5 rfl ?_
      refine g_get X uwX11 0 rfl rfl 10 (by decide) kl_X11_91 rfl rfl gwX11 dX11_count_6 ?_
      refine g_icmp_ge X 30 dX11_count_9 (by decide) (fun c9_1 => ?_) (fun c9_1 => absurd (tge (a := c) (b := n) (by omega) (by omega) (by omega)) c9_1)
      refine g_iload_n X dX11_count_30 rfl ?_
      refine g_tableIn X 94 dX11_count_31 (off := 63) (by decide) (by decide) (by decide) (by decide) ?_
      refine g_aload_n X dX11_count_94 rfl ?_
      refine g_get X uwX11 0 rfl rfl 15 (by decide) kl_X11_34 rfl rfl gwX11 dX11_count_95 ?_
      refine g_iconst X (0) dX11_count_98 (by decide) ?_
      refine g_iald' X 2 rfl (i := 0) rfl (by omega) (by omega) dX11_count_99 ?_
      refine g_toe (x' := day) rfl ?_
      exact g_iret X E dX11_count_100 () day (by first | rfl | (simp [c9_1]; done)) rfl
    | succ d4 ih4 =>
      intro c hc tw h1
      refine g_iload_n X dX11_count_4 rfl ?_
      refine g_aload_n X dX11_count_5 rfl ?_
      refine g_get X uwX11 0 rfl rfl 10 (by decide) kl_X11_91 rfl rfl gwX11 dX11_count_6 ?_
      refine g_icmp_ge X 30 dX11_count_9 (by decide) (fun c9_2 => absurd c9_2 (fge (a := c) (b := n) (by omega) (by omega) (by omega))) (fun c9_2 => ?_)
      refine g_iload_n X dX11_count_12 rfl ?_
      refine g_aload_n X dX11_count_13 rfl ?_
      refine g_get X uwX11 0 rfl rfl 12 (by decide) kl_X11_28 rfl rfl gwX11 dX11_count_14 ?_
      refine g_iload_n X dX11_count_17 rfl ?_
      refine g_iald' X 1 rfl (i := c) rfl (by omega) (by omega) dX11_count_18 ?_
      refine g_callSi X (c_X11_bits V (wb c)) mo_X11_bits kl_X11_137 [] [0, 0, 0] rfl (by decide +kernel) rfl rfl (fun _ => Nat.le_of_ble_eq_true rfl) (As := [.int (wb c)]) (st := [.int tw]) (cs' := (0, 0)) rfl rfl rfl dX11_count_19 (fun r_7 u_3 hp_4 ws_6 hw_5 => ?_)
      obtain rfl : r_7 = bitsM (wb c) := hp_4
      have hw_5x : ws_6 = [(mm, .inr (11, [.int le_, .ref mtx, .int po_, .ref mnu, .int fa_, .int rcl_, .int rle_, .ref mrc, .ref mrw, .ref mrl, .int (nI n), .ref mki, .ref mwa, .int ls_, .ref mle, .ref mno, .ref mtr, .ref mse, .ref mba, .int ba_, .ref mim, .int km_, .int si_, .ref msi, .ref mfo, .int fm_, .ref mor, .ref mbo, .ref mma, .ref mbm, .ref mso])), (mwa, .inl (V.2.2.1, 7, .inl wb)), (mno, .inl (V.2.2.1, 15, .inl (stF day w g)))] := hw_5.symm
      clear hw_5; subst hw_5x
      refine g_iadd X dX11_count_22 ?_
      refine g_istore_n X (L' := [some (.ref mm), some (.int 3), some (.int (tw + (bitsM (wb c)))), some (.int (nI c))]) dX11_count_23 (by decide) rfl rfl ?_
      refine g_iinc X (v := nI (c + 1)) (L' := [some (.ref mm), some (.int 3), some (.int (tw + (bitsM (wb c)))), some (.int (nI (c + 1)))]) dX11_count_24 rfl (nI_addk (by decide)) (by decide) rfl rfl ?_
      refine g_goto X 4 dX11_count_27 (by decide) ?_
      exact ih4 (c + 1) (by omega) (tw + (bitsM (wb c))) (by rw [it_s, ← h1])
  exact loop4 n 0 (by omega) 0 rfl

set_option maxHeartbeats 4000000 in
set_option maxRecDepth 100000 in
theorem w_count_4 (V : gV) (mm : Nat) (mtx : Nat) (mnu : Nat) (mrc : Nat) (mrw : Nat) (mrl : Nat) (mki : Nat) (mwa : Nat) (mle : Nat) (mno : Nat) (mtr : Nat) (mse : Nat) (mba : Nat) (mim : Nat) (msi : Nat) (mfo : Nat) (mor : Nat) (mbo : Nat) (mma : Nat) (mbm : Nat) (mso : Nat) (le_ : Int32) (po_ : Int32) (fa_ : Int32) (rcl_ : Int32) (rle_ : Int32) (n : Nat) (ls_ : Int32) (ba_ : Int32) (km_ : Int32) (si_ : Int32) (fm_ : Int32) (wb : Nat → Int32) (day : Int32) (w : Nat → Int32) (g : Nat → Int32) (hn : n ≤ 7) : Ki V yX11_count cX11_count 4 .int ({ frames := 1, cells := 0, slots := 0, locals := 23 }) [.ref mm, .int 4] [(mm, .inr (11, [.int le_, .ref mtx, .int po_, .ref mnu, .int fa_, .int rcl_, .int rle_, .ref mrc, .ref mrw, .ref mrl, .int (nI n), .ref mki, .ref mwa, .int ls_, .ref mle, .ref mno, .ref mtr, .ref mse, .ref mba, .int ba_, .ref mim, .int km_, .int si_, .ref msi, .ref mfo, .int fm_, .ref mor, .ref mbo, .ref mma, .ref mbm, .ref mso])), (mwa, .inl (V.2.2.1, 7, .inl wb)), (mno, .inl (V.2.2.1, 15, .inl (stF day w g)))] (fun (r : Int32) (u : Unit) => r = nI (rightF n w)) (fun u => [(mm, .inr (11, [.int le_, .ref mtx, .int po_, .ref mnu, .int fa_, .int rcl_, .int rle_, .ref mrc, .ref mrw, .ref mrl, .int (nI n), .ref mki, .ref mwa, .int ls_, .ref mle, .ref mno, .ref mtr, .ref mse, .ref mba, .int ba_, .ref mim, .int km_, .int si_, .ref msi, .ref mfo, .int fm_, .ref mor, .ref mbo, .ref mma, .ref mbm, .ref mso])), (mwa, .inl (V.2.2.1, 7, .inl wb)), (mno, .inl (V.2.2.1, 15, .inl (stF day w g)))]) := by
  refine Ki.of [some (.ref mm), some (.int 4), none, none] (by decide) (Nat.le_of_ble_eq_true rfl) rfl rfl ?_
  intro Z X E
  have X : gX V Z RX11 cX11_count 4 ({ frames := 1, cells := 0, slots := 0, locals := 23 }) := X
  refine g_iconst X (0) dX11_count_0 (by decide) ?_
  refine g_istore_n X (L' := [some (.ref mm), some (.int 4), some (.int 0), none]) dX11_count_1 (by decide) rfl rfl ?_
  refine g_iconst X (0) dX11_count_2 (by decide) ?_
  refine g_istore_n X (L' := [some (.ref mm), some (.int 4), some (.int 0), some (.int 0)]) dX11_count_3 (by decide) rfl rfl ?_
  have loop4 : ∀ (d4 c : Nat), c + d4 = n → ∀ (tw : Int32) (h1 : tw = it (fun c s => s + bitsM (wb c)) c 0), G V Z 4 (0, 0) [(mm, .inr (11, [.int le_, .ref mtx, .int po_, .ref mnu, .int fa_, .int rcl_, .int rle_, .ref mrc, .ref mrw, .ref mrl, .int (nI n), .ref mki, .ref mwa, .int ls_, .ref mle, .ref mno, .ref mtr, .ref mse, .ref mba, .int ba_, .ref mim, .int km_, .int si_, .ref msi, .ref mfo, .int fm_, .ref mor, .ref mbo, .ref mma, .ref mbm, .ref mso])), (mwa, .inl (V.2.2.1, 7, .inl wb)), (mno, .inl (V.2.2.1, 15, .inl (stF day w g)))] 4 [some (.ref mm), some (.int 4), some (.int tw), some (.int (nI c))] [] := by
    intro d4
    induction d4 with
    | zero =>
      intro c hc tw h1
      refine g_iload_n X dX11_count_4 rfl ?_
      refine g_aload_n X dX11_count_5 rfl ?_
      refine g_get X uwX11 0 rfl rfl 10 (by decide) kl_X11_91 rfl rfl gwX11 dX11_count_6 ?_
      refine g_icmp_ge X 30 dX11_count_9 (by decide) (fun c9_1 => ?_) (fun c9_1 => absurd (tge (a := c) (b := n) (by omega) (by omega) (by omega)) c9_1)
      refine g_iload_n X dX11_count_30 rfl ?_
      refine g_tableIn X 101 dX11_count_31 (off := 70) (by decide) (by decide) (by decide) (by decide) ?_
      refine g_aload_n X dX11_count_101 rfl ?_
      refine g_aload_n X dX11_count_102 rfl ?_
      refine g_get X uwX11 0 rfl rfl 15 (by decide) kl_X11_34 rfl rfl gwX11 dX11_count_103 ?_
      refine g_callVi X (c_X11_rightOf V mm mtx mnu mrc mrw mrl mki mwa mle mno mtr mse mba mim msi mfo mor mbo mma mbm mso le_ po_ fa_ rcl_ rle_ n ls_ ba_ km_ si_ fm_ day w g mno (by omega)) mo_X11_rightOf kl_X11_211 [0, 2] [1, 0, 2] rfl (by decide +kernel) rfl rfl (fun _ => Nat.le_of_ble_eq_true rfl) 0 11 rfl rfl (As := [.ref mno]) (st := []) (cs' := (0, 0)) rfl rfl rfl rfl dX11_count_106 (fun r_6 u_2 hp_3 ws_5 hw_4 => ?_)
      obtain rfl : r_6 = nI (rightF n w) := hp_3
      have hw_4x : ws_5 = [(mm, .inr (11, [.int le_, .ref mtx, .int po_, .ref mnu, .int fa_, .int rcl_, .int rle_, .ref mrc, .ref mrw, .ref mrl, .int (nI n), .ref mki, .ref mwa, .int ls_, .ref mle, .ref mno, .ref mtr, .ref mse, .ref mba, .int ba_, .ref mim, .int km_, .int si_, .ref msi, .ref mfo, .int fm_, .ref mor, .ref mbo, .ref mma, .ref mbm, .ref mso])), (mwa, .inl (V.2.2.1, 7, .inl wb)), (mno, .inl (V.2.2.1, 15, .inl (stF day w g)))] := hw_4.symm
      clear hw_4; subst hw_4x
      exact g_iret X E dX11_count_109 () (nI (rightF n w)) (by first | rfl | (simp [c9_1]; done)) rfl
    | succ d4 ih4 =>
      intro c hc tw h1
      refine g_iload_n X dX11_count_4 rfl ?_
      refine g_aload_n X dX11_count_5 rfl ?_
      refine g_get X uwX11 0 rfl rfl 10 (by decide) kl_X11_91 rfl rfl gwX11 dX11_count_6 ?_
      refine g_icmp_ge X 30 dX11_count_9 (by decide) (fun c9_7 => absurd c9_7 (fge (a := c) (b := n) (by omega) (by omega) (by omega))) (fun c9_7 => ?_)
      refine g_iload_n X dX11_count_12 rfl ?_
      refine g_aload_n X dX11_count_13 rfl ?_
      refine g_get X uwX11 0 rfl rfl 12 (by decide) kl_X11_28 rfl rfl gwX11 dX11_count_14 ?_
      refine g_iload_n X dX11_count_17 rfl ?_
      refine g_iald' X 1 rfl (i := c) rfl (by omega) (by omega) dX11_count_18 ?_
      refine g_callSi X (c_X11_bits V (wb c)) mo_X11_bits kl_X11_137 [] [0, 0, 0] rfl (by decide +kernel) rfl rfl (fun _ => Nat.le_of_ble_eq_true rfl) (As := [.int (wb c)]) (st := [.int tw]) (cs' := (0, 0)) rfl rfl rfl dX11_count_19 (fun r_12 u_8 hp_9 ws_11 hw_10 => ?_)
      obtain rfl : r_12 = bitsM (wb c) := hp_9
      have hw_10x : ws_11 = [(mm, .inr (11, [.int le_, .ref mtx, .int po_, .ref mnu, .int fa_, .int rcl_, .int rle_, .ref mrc, .ref mrw, .ref mrl, .int (nI n), .ref mki, .ref mwa, .int ls_, .ref mle, .ref mno, .ref mtr, .ref mse, .ref mba, .int ba_, .ref mim, .int km_, .int si_, .ref msi, .ref mfo, .int fm_, .ref mor, .ref mbo, .ref mma, .ref mbm, .ref mso])), (mwa, .inl (V.2.2.1, 7, .inl wb)), (mno, .inl (V.2.2.1, 15, .inl (stF day w g)))] := hw_10.symm
      clear hw_10; subst hw_10x
      refine g_iadd X dX11_count_22 ?_
      refine g_istore_n X (L' := [some (.ref mm), some (.int 4), some (.int (tw + (bitsM (wb c)))), some (.int (nI c))]) dX11_count_23 (by decide) rfl rfl ?_
      refine g_iinc X (v := nI (c + 1)) (L' := [some (.ref mm), some (.int 4), some (.int (tw + (bitsM (wb c)))), some (.int (nI (c + 1)))]) dX11_count_24 rfl (nI_addk (by decide)) (by decide) rfl rfl ?_
      refine g_goto X 4 dX11_count_27 (by decide) ?_
      exact ih4 (c + 1) (by omega) (tw + (bitsM (wb c))) (by rw [it_s, ← h1])
  exact loop4 n 0 (by omega) 0 rfl

set_option maxHeartbeats 4000000 in
set_option maxRecDepth 100000 in
theorem w_count_5 (V : gV) (mm : Nat) (mtx : Nat) (mnu : Nat) (mrc : Nat) (mrw : Nat) (mrl : Nat) (mki : Nat) (mwa : Nat) (mle : Nat) (mno : Nat) (mtr : Nat) (mse : Nat) (mba : Nat) (mim : Nat) (msi : Nat) (mfo : Nat) (mor : Nat) (mbo : Nat) (mma : Nat) (mbm : Nat) (mso : Nat) (le_ : Int32) (po_ : Int32) (fa_ : Int32) (rcl_ : Int32) (rle_ : Int32) (n : Nat) (ls_ : Int32) (ba_ : Int32) (km_ : Int32) (z : Nat) (fm_ : Int32) (wb : Nat → Int32) (hn : n ≤ 7) : Ki V yX11_count cX11_count 4 .int ({ frames := 1, cells := 0, slots := 0, locals := 22 }) [.ref mm, .int 5] [(mm, .inr (11, [.int le_, .ref mtx, .int po_, .ref mnu, .int fa_, .int rcl_, .int rle_, .ref mrc, .ref mrw, .ref mrl, .int (nI n), .ref mki, .ref mwa, .int ls_, .ref mle, .ref mno, .ref mtr, .ref mse, .ref mba, .int ba_, .ref mim, .int km_, .int (nI z), .ref msi, .ref mfo, .int fm_, .ref mor, .ref mbo, .ref mma, .ref mbm, .ref mso])), (mwa, .inl (V.2.2.1, 7, .inl wb))] (fun (r : Int32) (u : Unit) => r = nI z) (fun u => [(mm, .inr (11, [.int le_, .ref mtx, .int po_, .ref mnu, .int fa_, .int rcl_, .int rle_, .ref mrc, .ref mrw, .ref mrl, .int (nI n), .ref mki, .ref mwa, .int ls_, .ref mle, .ref mno, .ref mtr, .ref mse, .ref mba, .int ba_, .ref mim, .int km_, .int (nI z), .ref msi, .ref mfo, .int fm_, .ref mor, .ref mbo, .ref mma, .ref mbm, .ref mso])), (mwa, .inl (V.2.2.1, 7, .inl wb))]) := by
  refine Ki.of [some (.ref mm), some (.int 5), none, none] (by decide) (Nat.le_of_ble_eq_true rfl) rfl rfl ?_
  intro Z X E
  have X : gX V Z RX11 cX11_count 4 ({ frames := 1, cells := 0, slots := 0, locals := 22 }) := X
  refine g_iconst X (0) dX11_count_0 (by decide) ?_
  refine g_istore_n X (L' := [some (.ref mm), some (.int 5), some (.int 0), none]) dX11_count_1 (by decide) rfl rfl ?_
  refine g_iconst X (0) dX11_count_2 (by decide) ?_
  refine g_istore_n X (L' := [some (.ref mm), some (.int 5), some (.int 0), some (.int 0)]) dX11_count_3 (by decide) rfl rfl ?_
  have loop4 : ∀ (d4 c : Nat), c + d4 = n → ∀ (tw : Int32) (h1 : tw = it (fun c s => s + bitsM (wb c)) c 0), G V Z 4 (0, 0) [(mm, .inr (11, [.int le_, .ref mtx, .int po_, .ref mnu, .int fa_, .int rcl_, .int rle_, .ref mrc, .ref mrw, .ref mrl, .int (nI n), .ref mki, .ref mwa, .int ls_, .ref mle, .ref mno, .ref mtr, .ref mse, .ref mba, .int ba_, .ref mim, .int km_, .int (nI z), .ref msi, .ref mfo, .int fm_, .ref mor, .ref mbo, .ref mma, .ref mbm, .ref mso])), (mwa, .inl (V.2.2.1, 7, .inl wb))] 4 [some (.ref mm), some (.int 5), some (.int tw), some (.int (nI c))] [] := by
    intro d4
    induction d4 with
    | zero =>
      intro c hc tw h1
      refine g_iload_n X dX11_count_4 rfl ?_
      refine g_aload_n X dX11_count_5 rfl ?_
      refine g_get X uwX11 0 rfl rfl 10 (by decide) kl_X11_91 rfl rfl gwX11 dX11_count_6 ?_
      refine g_icmp_ge X 30 dX11_count_9 (by decide) (fun c9_1 => ?_) (fun c9_1 => absurd (tge (a := c) (b := n) (by omega) (by omega) (by omega)) c9_1)
      refine g_iload_n X dX11_count_30 rfl ?_
      refine g_tableIn X 110 dX11_count_31 (off := 79) (by decide) (by decide) (by decide) (by decide) ?_
      refine g_aload_n X dX11_count_110 rfl ?_
      refine g_get X uwX11 0 rfl rfl 22 (by decide) kl_X11_131 rfl rfl gwX11 dX11_count_111 ?_
      exact g_iret X E dX11_count_114 () (nI z) (by first | rfl | (simp [c9_1]; done)) rfl
    | succ d4 ih4 =>
      intro c hc tw h1
      refine g_iload_n X dX11_count_4 rfl ?_
      refine g_aload_n X dX11_count_5 rfl ?_
      refine g_get X uwX11 0 rfl rfl 10 (by decide) kl_X11_91 rfl rfl gwX11 dX11_count_6 ?_
      refine g_icmp_ge X 30 dX11_count_9 (by decide) (fun c9_2 => absurd c9_2 (fge (a := c) (b := n) (by omega) (by omega) (by omega))) (fun c9_2 => ?_)
      refine g_iload_n X dX11_count_12 rfl ?_
      refine g_aload_n X dX11_count_13 rfl ?_
      refine g_get X uwX11 0 rfl rfl 12 (by decide) kl_X11_28 rfl rfl gwX11 dX11_count_14 ?_
      refine g_iload_n X dX11_count_17 rfl ?_
      refine g_iald' X 1 rfl (i := c) rfl (by omega) (by omega) dX11_count_18 ?_
      refine g_callSi X (c_X11_bits V (wb c)) mo_X11_bits kl_X11_137 [] [0, 0] rfl (by decide +kernel) rfl rfl (fun _ => Nat.le_of_ble_eq_true rfl) (As := [.int (wb c)]) (st := [.int tw]) (cs' := (0, 0)) rfl rfl rfl dX11_count_19 (fun r_7 u_3 hp_4 ws_6 hw_5 => ?_)
      obtain rfl : r_7 = bitsM (wb c) := hp_4
      have hw_5x : ws_6 = [(mm, .inr (11, [.int le_, .ref mtx, .int po_, .ref mnu, .int fa_, .int rcl_, .int rle_, .ref mrc, .ref mrw, .ref mrl, .int (nI n), .ref mki, .ref mwa, .int ls_, .ref mle, .ref mno, .ref mtr, .ref mse, .ref mba, .int ba_, .ref mim, .int km_, .int (nI z), .ref msi, .ref mfo, .int fm_, .ref mor, .ref mbo, .ref mma, .ref mbm, .ref mso])), (mwa, .inl (V.2.2.1, 7, .inl wb))] := hw_5.symm
      clear hw_5; subst hw_5x
      refine g_iadd X dX11_count_22 ?_
      refine g_istore_n X (L' := [some (.ref mm), some (.int 5), some (.int (tw + (bitsM (wb c)))), some (.int (nI c))]) dX11_count_23 (by decide) rfl rfl ?_
      refine g_iinc X (v := nI (c + 1)) (L' := [some (.ref mm), some (.int 5), some (.int (tw + (bitsM (wb c)))), some (.int (nI (c + 1)))]) dX11_count_24 rfl (nI_addk (by decide)) (by decide) rfl rfl ?_
      refine g_goto X 4 dX11_count_27 (by decide) ?_
      exact ih4 (c + 1) (by omega) (tw + (bitsM (wb c))) (by rw [it_s, ← h1])
  exact loop4 n 0 (by omega) 0 rfl

set_option maxHeartbeats 4000000 in
set_option maxRecDepth 100000 in
theorem w_count_6 (V : gV) (mm : Nat) (mtx : Nat) (mnu : Nat) (mrc : Nat) (mrw : Nat) (mrl : Nat) (mki : Nat) (mwa : Nat) (mle : Nat) (mno : Nat) (mtr : Nat) (mse : Nat) (mba : Nat) (mim : Nat) (msi : Nat) (mfo : Nat) (mor : Nat) (mbo : Nat) (mma : Nat) (mbm : Nat) (mso : Nat) (le_ : Int32) (po_ : Int32) (fa_ : Int32) (rcl_ : Int32) (rle_ : Int32) (n : Nat) (ls_ : Int32) (q : Nat) (km_ : Int32) (si_ : Int32) (fm_ : Int32) (wb : Nat → Int32) (hn : n ≤ 7) : Ki V yX11_count cX11_count 4 .int ({ frames := 1, cells := 0, slots := 0, locals := 22 }) [.ref mm, .int 6] [(mm, .inr (11, [.int le_, .ref mtx, .int po_, .ref mnu, .int fa_, .int rcl_, .int rle_, .ref mrc, .ref mrw, .ref mrl, .int (nI n), .ref mki, .ref mwa, .int ls_, .ref mle, .ref mno, .ref mtr, .ref mse, .ref mba, .int (nI q), .ref mim, .int km_, .int si_, .ref msi, .ref mfo, .int fm_, .ref mor, .ref mbo, .ref mma, .ref mbm, .ref mso])), (mwa, .inl (V.2.2.1, 7, .inl wb))] (fun (r : Int32) (u : Unit) => r = nI q) (fun u => [(mm, .inr (11, [.int le_, .ref mtx, .int po_, .ref mnu, .int fa_, .int rcl_, .int rle_, .ref mrc, .ref mrw, .ref mrl, .int (nI n), .ref mki, .ref mwa, .int ls_, .ref mle, .ref mno, .ref mtr, .ref mse, .ref mba, .int (nI q), .ref mim, .int km_, .int si_, .ref msi, .ref mfo, .int fm_, .ref mor, .ref mbo, .ref mma, .ref mbm, .ref mso])), (mwa, .inl (V.2.2.1, 7, .inl wb))]) := by
  refine Ki.of [some (.ref mm), some (.int 6), none, none] (by decide) (Nat.le_of_ble_eq_true rfl) rfl rfl ?_
  intro Z X E
  have X : gX V Z RX11 cX11_count 4 ({ frames := 1, cells := 0, slots := 0, locals := 22 }) := X
  refine g_iconst X (0) dX11_count_0 (by decide) ?_
  refine g_istore_n X (L' := [some (.ref mm), some (.int 6), some (.int 0), none]) dX11_count_1 (by decide) rfl rfl ?_
  refine g_iconst X (0) dX11_count_2 (by decide) ?_
  refine g_istore_n X (L' := [some (.ref mm), some (.int 6), some (.int 0), some (.int 0)]) dX11_count_3 (by decide) rfl rfl ?_
  have loop4 : ∀ (d4 c : Nat), c + d4 = n → ∀ (tw : Int32) (h1 : tw = it (fun c s => s + bitsM (wb c)) c 0), G V Z 4 (0, 0) [(mm, .inr (11, [.int le_, .ref mtx, .int po_, .ref mnu, .int fa_, .int rcl_, .int rle_, .ref mrc, .ref mrw, .ref mrl, .int (nI n), .ref mki, .ref mwa, .int ls_, .ref mle, .ref mno, .ref mtr, .ref mse, .ref mba, .int (nI q), .ref mim, .int km_, .int si_, .ref msi, .ref mfo, .int fm_, .ref mor, .ref mbo, .ref mma, .ref mbm, .ref mso])), (mwa, .inl (V.2.2.1, 7, .inl wb))] 4 [some (.ref mm), some (.int 6), some (.int tw), some (.int (nI c))] [] := by
    intro d4
    induction d4 with
    | zero =>
      intro c hc tw h1
      refine g_iload_n X dX11_count_4 rfl ?_
      refine g_aload_n X dX11_count_5 rfl ?_
      refine g_get X uwX11 0 rfl rfl 10 (by decide) kl_X11_91 rfl rfl gwX11 dX11_count_6 ?_
      refine g_icmp_ge X 30 dX11_count_9 (by decide) (fun c9_1 => ?_) (fun c9_1 => absurd (tge (a := c) (b := n) (by omega) (by omega) (by omega)) c9_1)
      refine g_iload_n X dX11_count_30 rfl ?_
      refine g_tableIn X 115 dX11_count_31 (off := 84) (by decide) (by decide) (by decide) (by decide) ?_
      refine g_aload_n X dX11_count_115 rfl ?_
      refine g_get X uwX11 0 rfl rfl 19 (by decide) kl_X11_125 rfl rfl gwX11 dX11_count_116 ?_
      exact g_iret X E dX11_count_119 () (nI q) (by first | rfl | (simp [c9_1]; done)) rfl
    | succ d4 ih4 =>
      intro c hc tw h1
      refine g_iload_n X dX11_count_4 rfl ?_
      refine g_aload_n X dX11_count_5 rfl ?_
      refine g_get X uwX11 0 rfl rfl 10 (by decide) kl_X11_91 rfl rfl gwX11 dX11_count_6 ?_
      refine g_icmp_ge X 30 dX11_count_9 (by decide) (fun c9_2 => absurd c9_2 (fge (a := c) (b := n) (by omega) (by omega) (by omega))) (fun c9_2 => ?_)
      refine g_iload_n X dX11_count_12 rfl ?_
      refine g_aload_n X dX11_count_13 rfl ?_
      refine g_get X uwX11 0 rfl rfl 12 (by decide) kl_X11_28 rfl rfl gwX11 dX11_count_14 ?_
      refine g_iload_n X dX11_count_17 rfl ?_
      refine g_iald' X 1 rfl (i := c) rfl (by omega) (by omega) dX11_count_18 ?_
      refine g_callSi X (c_X11_bits V (wb c)) mo_X11_bits kl_X11_137 [] [0, 0] rfl (by decide +kernel) rfl rfl (fun _ => Nat.le_of_ble_eq_true rfl) (As := [.int (wb c)]) (st := [.int tw]) (cs' := (0, 0)) rfl rfl rfl dX11_count_19 (fun r_7 u_3 hp_4 ws_6 hw_5 => ?_)
      obtain rfl : r_7 = bitsM (wb c) := hp_4
      have hw_5x : ws_6 = [(mm, .inr (11, [.int le_, .ref mtx, .int po_, .ref mnu, .int fa_, .int rcl_, .int rle_, .ref mrc, .ref mrw, .ref mrl, .int (nI n), .ref mki, .ref mwa, .int ls_, .ref mle, .ref mno, .ref mtr, .ref mse, .ref mba, .int (nI q), .ref mim, .int km_, .int si_, .ref msi, .ref mfo, .int fm_, .ref mor, .ref mbo, .ref mma, .ref mbm, .ref mso])), (mwa, .inl (V.2.2.1, 7, .inl wb))] := hw_5.symm
      clear hw_5; subst hw_5x
      refine g_iadd X dX11_count_22 ?_
      refine g_istore_n X (L' := [some (.ref mm), some (.int 6), some (.int (tw + (bitsM (wb c)))), some (.int (nI c))]) dX11_count_23 (by decide) rfl rfl ?_
      refine g_iinc X (v := nI (c + 1)) (L' := [some (.ref mm), some (.int 6), some (.int (tw + (bitsM (wb c)))), some (.int (nI (c + 1)))]) dX11_count_24 rfl (nI_addk (by decide)) (by decide) rfl rfl ?_
      refine g_goto X 4 dX11_count_27 (by decide) ?_
      exact ih4 (c + 1) (by omega) (tw + (bitsM (wb c))) (by rw [it_s, ← h1])
  exact loop4 n 0 (by omega) 0 rfl

set_option maxHeartbeats 4000000 in
set_option maxRecDepth 100000 in
theorem w_count_7 (V : gV) (mm : Nat) (mtx : Nat) (mnu : Nat) (mrc : Nat) (mrw : Nat) (mrl : Nat) (mki : Nat) (mwa : Nat) (mle : Nat) (mno : Nat) (mtr : Nat) (mse : Nat) (mba : Nat) (mim : Nat) (msi : Nat) (mfo : Nat) (mor : Nat) (mbo : Nat) (mma : Nat) (mbm : Nat) (mso : Nat) (le_ : Int32) (po_ : Int32) (fa_ : Int32) (rcl_ : Int32) (rle_ : Int32) (n : Nat) (ls_ : Int32) (ba_ : Int32) (q2 : Nat) (si_ : Int32) (fm_ : Int32) (wb : Nat → Int32) (hn : n ≤ 7) : Ki V yX11_count cX11_count 4 .int ({ frames := 1, cells := 0, slots := 0, locals := 22 }) [.ref mm, .int 7] [(mm, .inr (11, [.int le_, .ref mtx, .int po_, .ref mnu, .int fa_, .int rcl_, .int rle_, .ref mrc, .ref mrw, .ref mrl, .int (nI n), .ref mki, .ref mwa, .int ls_, .ref mle, .ref mno, .ref mtr, .ref mse, .ref mba, .int ba_, .ref mim, .int (nI q2), .int si_, .ref msi, .ref mfo, .int fm_, .ref mor, .ref mbo, .ref mma, .ref mbm, .ref mso])), (mwa, .inl (V.2.2.1, 7, .inl wb))] (fun (r : Int32) (u : Unit) => r = nI q2) (fun u => [(mm, .inr (11, [.int le_, .ref mtx, .int po_, .ref mnu, .int fa_, .int rcl_, .int rle_, .ref mrc, .ref mrw, .ref mrl, .int (nI n), .ref mki, .ref mwa, .int ls_, .ref mle, .ref mno, .ref mtr, .ref mse, .ref mba, .int ba_, .ref mim, .int (nI q2), .int si_, .ref msi, .ref mfo, .int fm_, .ref mor, .ref mbo, .ref mma, .ref mbm, .ref mso])), (mwa, .inl (V.2.2.1, 7, .inl wb))]) := by
  refine Ki.of [some (.ref mm), some (.int 7), none, none] (by decide) (Nat.le_of_ble_eq_true rfl) rfl rfl ?_
  intro Z X E
  have X : gX V Z RX11 cX11_count 4 ({ frames := 1, cells := 0, slots := 0, locals := 22 }) := X
  refine g_iconst X (0) dX11_count_0 (by decide) ?_
  refine g_istore_n X (L' := [some (.ref mm), some (.int 7), some (.int 0), none]) dX11_count_1 (by decide) rfl rfl ?_
  refine g_iconst X (0) dX11_count_2 (by decide) ?_
  refine g_istore_n X (L' := [some (.ref mm), some (.int 7), some (.int 0), some (.int 0)]) dX11_count_3 (by decide) rfl rfl ?_
  have loop4 : ∀ (d4 c : Nat), c + d4 = n → ∀ (tw : Int32) (h1 : tw = it (fun c s => s + bitsM (wb c)) c 0), G V Z 4 (0, 0) [(mm, .inr (11, [.int le_, .ref mtx, .int po_, .ref mnu, .int fa_, .int rcl_, .int rle_, .ref mrc, .ref mrw, .ref mrl, .int (nI n), .ref mki, .ref mwa, .int ls_, .ref mle, .ref mno, .ref mtr, .ref mse, .ref mba, .int ba_, .ref mim, .int (nI q2), .int si_, .ref msi, .ref mfo, .int fm_, .ref mor, .ref mbo, .ref mma, .ref mbm, .ref mso])), (mwa, .inl (V.2.2.1, 7, .inl wb))] 4 [some (.ref mm), some (.int 7), some (.int tw), some (.int (nI c))] [] := by
    intro d4
    induction d4 with
    | zero =>
      intro c hc tw h1
      refine g_iload_n X dX11_count_4 rfl ?_
      refine g_aload_n X dX11_count_5 rfl ?_
      refine g_get X uwX11 0 rfl rfl 10 (by decide) kl_X11_91 rfl rfl gwX11 dX11_count_6 ?_
      refine g_icmp_ge X 30 dX11_count_9 (by decide) (fun c9_1 => ?_) (fun c9_1 => absurd (tge (a := c) (b := n) (by omega) (by omega) (by omega)) c9_1)
      refine g_iload_n X dX11_count_30 rfl ?_
      refine g_tableIn X 120 dX11_count_31 (off := 89) (by decide) (by decide) (by decide) (by decide) ?_
      refine g_aload_n X dX11_count_120 rfl ?_
      refine g_get X uwX11 0 rfl rfl 21 (by decide) kl_X11_128 rfl rfl gwX11 dX11_count_121 ?_
      exact g_iret X E dX11_count_124 () (nI q2) (by first | rfl | (simp [c9_1]; done)) rfl
    | succ d4 ih4 =>
      intro c hc tw h1
      refine g_iload_n X dX11_count_4 rfl ?_
      refine g_aload_n X dX11_count_5 rfl ?_
      refine g_get X uwX11 0 rfl rfl 10 (by decide) kl_X11_91 rfl rfl gwX11 dX11_count_6 ?_
      refine g_icmp_ge X 30 dX11_count_9 (by decide) (fun c9_2 => absurd c9_2 (fge (a := c) (b := n) (by omega) (by omega) (by omega))) (fun c9_2 => ?_)
      refine g_iload_n X dX11_count_12 rfl ?_
      refine g_aload_n X dX11_count_13 rfl ?_
      refine g_get X uwX11 0 rfl rfl 12 (by decide) kl_X11_28 rfl rfl gwX11 dX11_count_14 ?_
      refine g_iload_n X dX11_count_17 rfl ?_
      refine g_iald' X 1 rfl (i := c) rfl (by omega) (by omega) dX11_count_18 ?_
      refine g_callSi X (c_X11_bits V (wb c)) mo_X11_bits kl_X11_137 [] [0, 0] rfl (by decide +kernel) rfl rfl (fun _ => Nat.le_of_ble_eq_true rfl) (As := [.int (wb c)]) (st := [.int tw]) (cs' := (0, 0)) rfl rfl rfl dX11_count_19 (fun r_7 u_3 hp_4 ws_6 hw_5 => ?_)
      obtain rfl : r_7 = bitsM (wb c) := hp_4
      have hw_5x : ws_6 = [(mm, .inr (11, [.int le_, .ref mtx, .int po_, .ref mnu, .int fa_, .int rcl_, .int rle_, .ref mrc, .ref mrw, .ref mrl, .int (nI n), .ref mki, .ref mwa, .int ls_, .ref mle, .ref mno, .ref mtr, .ref mse, .ref mba, .int ba_, .ref mim, .int (nI q2), .int si_, .ref msi, .ref mfo, .int fm_, .ref mor, .ref mbo, .ref mma, .ref mbm, .ref mso])), (mwa, .inl (V.2.2.1, 7, .inl wb))] := hw_5.symm
      clear hw_5; subst hw_5x
      refine g_iadd X dX11_count_22 ?_
      refine g_istore_n X (L' := [some (.ref mm), some (.int 7), some (.int (tw + (bitsM (wb c)))), some (.int (nI c))]) dX11_count_23 (by decide) rfl rfl ?_
      refine g_iinc X (v := nI (c + 1)) (L' := [some (.ref mm), some (.int 7), some (.int (tw + (bitsM (wb c)))), some (.int (nI (c + 1)))]) dX11_count_24 rfl (nI_addk (by decide)) (by decide) rfl rfl ?_
      refine g_goto X 4 dX11_count_27 (by decide) ?_
      exact ih4 (c + 1) (by omega) (tw + (bitsM (wb c))) (by rw [it_s, ← h1])
  exact loop4 n 0 (by omega) 0 rfl

set_option maxHeartbeats 4000000 in
set_option maxRecDepth 100000 in
theorem w_count_8 (V : gV) (mm : Nat) (mtx : Nat) (mnu : Nat) (mrc : Nat) (mrw : Nat) (mrl : Nat) (mki : Nat) (mwa : Nat) (mle : Nat) (mno : Nat) (mtr : Nat) (mse : Nat) (mba : Nat) (mim : Nat) (msi : Nat) (mfo : Nat) (mor : Nat) (mbo : Nat) (mma : Nat) (mbm : Nat) (mso : Nat) (x : Nat) (po_ : Int32) (fa_ : Int32) (rcl_ : Int32) (rle_ : Int32) (n : Nat) (ls_ : Int32) (ba_ : Int32) (km_ : Int32) (si_ : Int32) (fm_ : Int32) (wb : Nat → Int32) (hn : n ≤ 7) : Ki V yX11_count cX11_count 4 .int ({ frames := 1, cells := 0, slots := 0, locals := 22 }) [.ref mm, .int 8] [(mm, .inr (11, [.int (nI x), .ref mtx, .int po_, .ref mnu, .int fa_, .int rcl_, .int rle_, .ref mrc, .ref mrw, .ref mrl, .int (nI n), .ref mki, .ref mwa, .int ls_, .ref mle, .ref mno, .ref mtr, .ref mse, .ref mba, .int ba_, .ref mim, .int km_, .int si_, .ref msi, .ref mfo, .int fm_, .ref mor, .ref mbo, .ref mma, .ref mbm, .ref mso])), (mwa, .inl (V.2.2.1, 7, .inl wb))] (fun (r : Int32) (u : Unit) => r = nI x) (fun u => [(mm, .inr (11, [.int (nI x), .ref mtx, .int po_, .ref mnu, .int fa_, .int rcl_, .int rle_, .ref mrc, .ref mrw, .ref mrl, .int (nI n), .ref mki, .ref mwa, .int ls_, .ref mle, .ref mno, .ref mtr, .ref mse, .ref mba, .int ba_, .ref mim, .int km_, .int si_, .ref msi, .ref mfo, .int fm_, .ref mor, .ref mbo, .ref mma, .ref mbm, .ref mso])), (mwa, .inl (V.2.2.1, 7, .inl wb))]) := by
  refine Ki.of [some (.ref mm), some (.int 8), none, none] (by decide) (Nat.le_of_ble_eq_true rfl) rfl rfl ?_
  intro Z X E
  have X : gX V Z RX11 cX11_count 4 ({ frames := 1, cells := 0, slots := 0, locals := 22 }) := X
  refine g_iconst X (0) dX11_count_0 (by decide) ?_
  refine g_istore_n X (L' := [some (.ref mm), some (.int 8), some (.int 0), none]) dX11_count_1 (by decide) rfl rfl ?_
  refine g_iconst X (0) dX11_count_2 (by decide) ?_
  refine g_istore_n X (L' := [some (.ref mm), some (.int 8), some (.int 0), some (.int 0)]) dX11_count_3 (by decide) rfl rfl ?_
  have loop4 : ∀ (d4 c : Nat), c + d4 = n → ∀ (tw : Int32) (h1 : tw = it (fun c s => s + bitsM (wb c)) c 0), G V Z 4 (0, 0) [(mm, .inr (11, [.int (nI x), .ref mtx, .int po_, .ref mnu, .int fa_, .int rcl_, .int rle_, .ref mrc, .ref mrw, .ref mrl, .int (nI n), .ref mki, .ref mwa, .int ls_, .ref mle, .ref mno, .ref mtr, .ref mse, .ref mba, .int ba_, .ref mim, .int km_, .int si_, .ref msi, .ref mfo, .int fm_, .ref mor, .ref mbo, .ref mma, .ref mbm, .ref mso])), (mwa, .inl (V.2.2.1, 7, .inl wb))] 4 [some (.ref mm), some (.int 8), some (.int tw), some (.int (nI c))] [] := by
    intro d4
    induction d4 with
    | zero =>
      intro c hc tw h1
      refine g_iload_n X dX11_count_4 rfl ?_
      refine g_aload_n X dX11_count_5 rfl ?_
      refine g_get X uwX11 0 rfl rfl 10 (by decide) kl_X11_91 rfl rfl gwX11 dX11_count_6 ?_
      refine g_icmp_ge X 30 dX11_count_9 (by decide) (fun c9_1 => ?_) (fun c9_1 => absurd (tge (a := c) (b := n) (by omega) (by omega) (by omega)) c9_1)
      refine g_iload_n X dX11_count_30 rfl ?_
      refine g_tableIn X 125 dX11_count_31 (off := 94) (by decide) (by decide) (by decide) (by decide) ?_
      refine g_aload_n X dX11_count_125 rfl ?_
      refine g_get X uwX11 0 rfl rfl 0 (by decide) kl_X11_98 rfl rfl gwX11 dX11_count_126 ?_
      exact g_iret X E dX11_count_129 () (nI x) (by first | rfl | (simp [c9_1]; done)) rfl
    | succ d4 ih4 =>
      intro c hc tw h1
      refine g_iload_n X dX11_count_4 rfl ?_
      refine g_aload_n X dX11_count_5 rfl ?_
      refine g_get X uwX11 0 rfl rfl 10 (by decide) kl_X11_91 rfl rfl gwX11 dX11_count_6 ?_
      refine g_icmp_ge X 30 dX11_count_9 (by decide) (fun c9_2 => absurd c9_2 (fge (a := c) (b := n) (by omega) (by omega) (by omega))) (fun c9_2 => ?_)
      refine g_iload_n X dX11_count_12 rfl ?_
      refine g_aload_n X dX11_count_13 rfl ?_
      refine g_get X uwX11 0 rfl rfl 12 (by decide) kl_X11_28 rfl rfl gwX11 dX11_count_14 ?_
      refine g_iload_n X dX11_count_17 rfl ?_
      refine g_iald' X 1 rfl (i := c) rfl (by omega) (by omega) dX11_count_18 ?_
      refine g_callSi X (c_X11_bits V (wb c)) mo_X11_bits kl_X11_137 [] [0, 0] rfl (by decide +kernel) rfl rfl (fun _ => Nat.le_of_ble_eq_true rfl) (As := [.int (wb c)]) (st := [.int tw]) (cs' := (0, 0)) rfl rfl rfl dX11_count_19 (fun r_7 u_3 hp_4 ws_6 hw_5 => ?_)
      obtain rfl : r_7 = bitsM (wb c) := hp_4
      have hw_5x : ws_6 = [(mm, .inr (11, [.int (nI x), .ref mtx, .int po_, .ref mnu, .int fa_, .int rcl_, .int rle_, .ref mrc, .ref mrw, .ref mrl, .int (nI n), .ref mki, .ref mwa, .int ls_, .ref mle, .ref mno, .ref mtr, .ref mse, .ref mba, .int ba_, .ref mim, .int km_, .int si_, .ref msi, .ref mfo, .int fm_, .ref mor, .ref mbo, .ref mma, .ref mbm, .ref mso])), (mwa, .inl (V.2.2.1, 7, .inl wb))] := hw_5.symm
      clear hw_5; subst hw_5x
      refine g_iadd X dX11_count_22 ?_
      refine g_istore_n X (L' := [some (.ref mm), some (.int 8), some (.int (tw + (bitsM (wb c)))), some (.int (nI c))]) dX11_count_23 (by decide) rfl rfl ?_
      refine g_iinc X (v := nI (c + 1)) (L' := [some (.ref mm), some (.int 8), some (.int (tw + (bitsM (wb c)))), some (.int (nI (c + 1)))]) dX11_count_24 rfl (nI_addk (by decide)) (by decide) rfl rfl ?_
      refine g_goto X 4 dX11_count_27 (by decide) ?_
      exact ih4 (c + 1) (by omega) (tw + (bitsM (wb c))) (by rw [it_s, ← h1])
  exact loop4 n 0 (by omega) 0 rfl

set_option maxHeartbeats 4000000 in
set_option maxRecDepth 100000 in
theorem w_count_bad (V : gV) (mm : Nat) (mtx : Nat) (mnu : Nat) (mrc : Nat) (mrw : Nat) (mrl : Nat) (mki : Nat) (mwa : Nat) (mle : Nat) (mno : Nat) (mtr : Nat) (mse : Nat) (mba : Nat) (mim : Nat) (msi : Nat) (mfo : Nat) (mor : Nat) (mbo : Nat) (mma : Nat) (mbm : Nat) (mso : Nat) (le_ : Int32) (po_ : Int32) (fa_ : Int32) (rcl_ : Int32) (rle_ : Int32) (n : Nat) (ls_ : Int32) (ba_ : Int32) (km_ : Int32) (si_ : Int32) (fm_ : Int32) (wb : Nat → Int32) (v : Int32) (hn : n ≤ 7) (hbad : v.toInt < 0 ∨ 8 < v.toInt) : Ki V yX11_count cX11_count 4 .int ({ frames := 1, cells := 0, slots := 0, locals := 22 }) [.ref mm, .int v] [(mm, .inr (11, [.int le_, .ref mtx, .int po_, .ref mnu, .int fa_, .int rcl_, .int rle_, .ref mrc, .ref mrw, .ref mrl, .int (nI n), .ref mki, .ref mwa, .int ls_, .ref mle, .ref mno, .ref mtr, .ref mse, .ref mba, .int ba_, .ref mim, .int km_, .int si_, .ref msi, .ref mfo, .int fm_, .ref mor, .ref mbo, .ref mma, .ref mbm, .ref mso])), (mwa, .inl (V.2.2.1, 7, .inl wb))] (fun (r : Int32) (u : Unit) => r = -1) (fun u => [(mm, .inr (11, [.int le_, .ref mtx, .int po_, .ref mnu, .int fa_, .int rcl_, .int rle_, .ref mrc, .ref mrw, .ref mrl, .int (nI n), .ref mki, .ref mwa, .int ls_, .ref mle, .ref mno, .ref mtr, .ref mse, .ref mba, .int ba_, .ref mim, .int km_, .int si_, .ref msi, .ref mfo, .int fm_, .ref mor, .ref mbo, .ref mma, .ref mbm, .ref mso])), (mwa, .inl (V.2.2.1, 7, .inl wb))]) := by
  refine Ki.of [some (.ref mm), some (.int v), none, none] (by decide) (Nat.le_of_ble_eq_true rfl) rfl rfl ?_
  intro Z X E
  have X : gX V Z RX11 cX11_count 4 ({ frames := 1, cells := 0, slots := 0, locals := 22 }) := X
  refine g_iconst X (0) dX11_count_0 (by decide) ?_
  refine g_istore_n X (L' := [some (.ref mm), some (.int v), some (.int 0), none]) dX11_count_1 (by decide) rfl rfl ?_
  refine g_iconst X (0) dX11_count_2 (by decide) ?_
  refine g_istore_n X (L' := [some (.ref mm), some (.int v), some (.int 0), some (.int 0)]) dX11_count_3 (by decide) rfl rfl ?_
  have loop4 : ∀ (d4 c : Nat), c + d4 = n → ∀ (tw : Int32) (h1 : tw = it (fun c s => s + bitsM (wb c)) c 0), G V Z 4 (0, 0) [(mm, .inr (11, [.int le_, .ref mtx, .int po_, .ref mnu, .int fa_, .int rcl_, .int rle_, .ref mrc, .ref mrw, .ref mrl, .int (nI n), .ref mki, .ref mwa, .int ls_, .ref mle, .ref mno, .ref mtr, .ref mse, .ref mba, .int ba_, .ref mim, .int km_, .int si_, .ref msi, .ref mfo, .int fm_, .ref mor, .ref mbo, .ref mma, .ref mbm, .ref mso])), (mwa, .inl (V.2.2.1, 7, .inl wb))] 4 [some (.ref mm), some (.int v), some (.int tw), some (.int (nI c))] [] := by
    intro d4
    induction d4 with
    | zero =>
      intro c hc tw h1
      refine g_iload_n X dX11_count_4 rfl ?_
      refine g_aload_n X dX11_count_5 rfl ?_
      refine g_get X uwX11 0 rfl rfl 10 (by decide) kl_X11_91 rfl rfl gwX11 dX11_count_6 ?_
      refine g_icmp_ge X 30 dX11_count_9 (by decide) (fun c9_1 => ?_) (fun c9_1 => absurd (tge (a := c) (b := n) (by omega) (by omega) (by omega)) c9_1)
      refine g_iload_n X dX11_count_30 rfl ?_
      refine g_tableOut X 130 dX11_count_31 hbad (by decide) ?_
      refine g_iconst X (-1) dX11_count_130 (by decide) ?_
      exact g_iret X E dX11_count_131 () (-1) (by first | rfl | (simp [c9_1]; done)) rfl
    | succ d4 ih4 =>
      intro c hc tw h1
      refine g_iload_n X dX11_count_4 rfl ?_
      refine g_aload_n X dX11_count_5 rfl ?_
      refine g_get X uwX11 0 rfl rfl 10 (by decide) kl_X11_91 rfl rfl gwX11 dX11_count_6 ?_
      refine g_icmp_ge X 30 dX11_count_9 (by decide) (fun c9_2 => absurd c9_2 (fge (a := c) (b := n) (by omega) (by omega) (by omega))) (fun c9_2 => ?_)
      refine g_iload_n X dX11_count_12 rfl ?_
      refine g_aload_n X dX11_count_13 rfl ?_
      refine g_get X uwX11 0 rfl rfl 12 (by decide) kl_X11_28 rfl rfl gwX11 dX11_count_14 ?_
      refine g_iload_n X dX11_count_17 rfl ?_
      refine g_iald' X 1 rfl (i := c) rfl (by omega) (by omega) dX11_count_18 ?_
      refine g_callSi X (c_X11_bits V (wb c)) mo_X11_bits kl_X11_137 [] [0, 0] rfl (by decide +kernel) rfl rfl (fun _ => Nat.le_of_ble_eq_true rfl) (As := [.int (wb c)]) (st := [.int tw]) (cs' := (0, 0)) rfl rfl rfl dX11_count_19 (fun r_7 u_3 hp_4 ws_6 hw_5 => ?_)
      obtain rfl : r_7 = bitsM (wb c) := hp_4
      have hw_5x : ws_6 = [(mm, .inr (11, [.int le_, .ref mtx, .int po_, .ref mnu, .int fa_, .int rcl_, .int rle_, .ref mrc, .ref mrw, .ref mrl, .int (nI n), .ref mki, .ref mwa, .int ls_, .ref mle, .ref mno, .ref mtr, .ref mse, .ref mba, .int ba_, .ref mim, .int km_, .int si_, .ref msi, .ref mfo, .int fm_, .ref mor, .ref mbo, .ref mma, .ref mbm, .ref mso])), (mwa, .inl (V.2.2.1, 7, .inl wb))] := hw_5.symm
      clear hw_5; subst hw_5x
      refine g_iadd X dX11_count_22 ?_
      refine g_istore_n X (L' := [some (.ref mm), some (.int v), some (.int (tw + (bitsM (wb c)))), some (.int (nI c))]) dX11_count_23 (by decide) rfl rfl ?_
      refine g_iinc X (v := nI (c + 1)) (L' := [some (.ref mm), some (.int v), some (.int (tw + (bitsM (wb c)))), some (.int (nI (c + 1)))]) dX11_count_24 rfl (nI_addk (by decide)) (by decide) rfl rfl ?_
      refine g_goto X 4 dX11_count_27 (by decide) ?_
      exact ih4 (c + 1) (by omega) (tw + (bitsM (wb c))) (by rw [it_s, ← h1])
  exact loop4 n 0 (by omega) 0 rfl
