set_option maxHeartbeats 4000000 in
set_option maxRecDepth 100000 in
theorem c_X11_areRight (V : gV) (mm : Nat) (mtx : Nat) (mnu : Nat) (mrc : Nat) (mrw : Nat) (mrl : Nat) (mki : Nat) (mwa : Nat) (mle : Nat) (mno : Nat) (mtr : Nat) (mse : Nat) (mba : Nat) (mim : Nat) (msi : Nat) (mfo : Nat) (mor : Nat) (mbo : Nat) (mma : Nat) (mbm : Nat) (mso : Nat) (le_ : Int32) (po_ : Int32) (fa_ : Int32) (rcl_ : Int32) (rle_ : Int32) (n : Nat) (ls_ : Int32) (ba_ : Int32) (km_ : Int32) (si_ : Int32) (fm_ : Int32) (day : Int32) (w : Nat → Int32) (g : Nat → Int32) (sa : Nat) (x : Int32) (hn : n ≤ 7) : Ki V yX11_areRight cX11_areRight 5 .boolean ({ frames := 1, cells := 0, slots := 0, locals := 20 }) [.ref mm, .ref sa, .int x] [(mm, .inr (11, [.int le_, .ref mtx, .int po_, .ref mnu, .int fa_, .int rcl_, .int rle_, .ref mrc, .ref mrw, .ref mrl, .int (nI n), .ref mki, .ref mwa, .int ls_, .ref mle, .ref mno, .ref mtr, .ref mse, .ref mba, .int ba_, .ref mim, .int km_, .int si_, .ref msi, .ref mfo, .int fm_, .ref mor, .ref mbo, .ref mma, .ref mbm, .ref mso])), (sa, .inl (V.2.2.1, 15, .inl (stF day w g)))] (fun (r : Int32) (u : Unit) => r = wiF n x w) (fun u => [(mm, .inr (11, [.int le_, .ref mtx, .int po_, .ref mnu, .int fa_, .int rcl_, .int rle_, .ref mrc, .ref mrw, .ref mrl, .int (nI n), .ref mki, .ref mwa, .int ls_, .ref mle, .ref mno, .ref mtr, .ref mse, .ref mba, .int ba_, .ref mim, .int km_, .int si_, .ref msi, .ref mfo, .int fm_, .ref mor, .ref mbo, .ref mma, .ref mbm, .ref mso])), (sa, .inl (V.2.2.1, 15, .inl (stF day w g)))]) := by
  refine Ki.of [some (.ref mm), some (.ref sa), some (.int x), none, none] (by decide) (Nat.le_of_ble_eq_true rfl) rfl rfl ?_
  intro Z X E
  have X : gX V Z RX11 cX11_areRight 5 ({ frames := 1, cells := 0, slots := 0, locals := 20 }) := X
  refine g_iconst X (1) dX11_areRight_0 (by decide) ?_
  refine g_istore_n X (L' := [some (.ref mm), some (.ref sa), some (.int x), some (.int 1), none]) dX11_areRight_1 (by decide) rfl rfl ?_
  refine g_iconst X (0) dX11_areRight_2 (by decide) ?_
  refine g_istore X (L' := [some (.ref mm), some (.ref sa), some (.int x), some (.int 1), some (.int 0)]) dX11_areRight_3 (by decide) rfl rfl ?_
  have loop5 : ∀ (d5 c : Nat), c + d5 = n → ∀ (ar_ : Int32) (h1 : ar_ = wiF c x w), G V Z 5 (0, 0) [(mm, .inr (11, [.int le_, .ref mtx, .int po_, .ref mnu, .int fa_, .int rcl_, .int rle_, .ref mrc, .ref mrw, .ref mrl, .int (nI n), .ref mki, .ref mwa, .int ls_, .ref mle, .ref mno, .ref mtr, .ref mse, .ref mba, .int ba_, .ref mim, .int km_, .int si_, .ref msi, .ref mfo, .int fm_, .ref mor, .ref mbo, .ref mma, .ref mbm, .ref mso])), (sa, .inl (V.2.2.1, 15, .inl (stF day w g)))] 5 [some (.ref mm), some (.ref sa), some (.int x), some (.int ar_), some (.int (nI c))] [] := by
    intro d5
    induction d5 with
    | zero =>
      intro c hc ar_ h1
      refine g_iload X dX11_areRight_5 rfl ?_
      refine g_aload_n X dX11_areRight_7 rfl ?_
      refine g_get X uwX11 0 rfl rfl 10 (by decide) kl_X11_91 rfl rfl gwX11 dX11_areRight_8 ?_
      refine g_icmp_ge X 43 dX11_areRight_11 (by decide) (fun c11_1 => ?_) (fun c11_1 => absurd (tge (a := c) (b := n) (by omega) (by omega) (by omega)) c11_1)
      refine g_iload_n X dX11_areRight_43 rfl ?_
      exact g_zret X E dX11_areRight_44 () ar_ (by have e : c = n := (by omega); subst e; rw [h1]; exact wi_bool _ _ _) (by have e : c = n := (by omega); subst e; exact h1) rfl
    | succ d5 ih5 =>
      intro c hc ar_ h1
      refine g_iload X dX11_areRight_5 rfl ?_
      refine g_aload_n X dX11_areRight_7 rfl ?_
      refine g_get X uwX11 0 rfl rfl 10 (by decide) kl_X11_91 rfl rfl gwX11 dX11_areRight_8 ?_
      refine g_icmp_ge X 43 dX11_areRight_11 (by decide) (fun c11_2 => absurd c11_2 (fge (a := c) (b := n) (by omega) (by omega) (by omega))) (fun c11_2 => ?_)
      refine g_iload_n X dX11_areRight_14 rfl ?_
      refine g_if_eq X 35 dX11_areRight_15 (by decide) (fun c15_3 => ?_) (fun c15_3 => ?_)
      · refine g_iconst X (0) dX11_areRight_35 (by decide) ?_
        refine g_istore_n X (L' := [some (.ref mm), some (.ref sa), some (.int x), some (.int 0), some (.int (nI c))]) dX11_areRight_36 (by decide) rfl rfl ?_
        refine g_iinc X (v := nI (c + 1)) (L' := [some (.ref mm), some (.ref sa), some (.int x), some (.int 0), some (.int (nI (c + 1)))]) dX11_areRight_37 rfl (nI_addk (by decide)) (by decide) rfl rfl ?_
        refine g_goto X 5 dX11_areRight_40 (by decide) ?_
        exact ih5 (c + 1) (by omega) 0 (by rw [wiF_s0 (by rw [← h1]; exact c15_3)])
      · refine g_aload_n X dX11_areRight_18 rfl ?_
        refine g_iconst X (1) dX11_areRight_19 (by decide) ?_
        refine g_iload X dX11_areRight_20 rfl ?_
        refine g_iadd X dX11_areRight_22 ?_
        refine g_toe (x' := nI (1 + c)) (nI_add' rfl rfl) ?_
        refine g_iald' X 1 rfl (i := (1 + c)) rfl (by omega) (by omega) dX11_areRight_23 ?_
        refine g_toe (x' := w c) (stF_w _ _ _ c (by omega)) ?_
        refine g_callSi X (c_X11_far V (w c)) mo_X11_far kl_X11_151 [] [0, 0] rfl (by decide +kernel) rfl rfl (fun _ => Nat.le_of_ble_eq_true rfl) (As := [.int (w c)]) (st := []) (cs' := (0, 0)) rfl rfl rfl dX11_areRight_24 (fun r_8 u_4 hp_5 ws_7 hw_6 => ?_)
        obtain rfl : r_8 = absF (w c) := hp_5
        have hw_6x : ws_7 = [(mm, .inr (11, [.int le_, .ref mtx, .int po_, .ref mnu, .int fa_, .int rcl_, .int rle_, .ref mrc, .ref mrw, .ref mrl, .int (nI n), .ref mki, .ref mwa, .int ls_, .ref mle, .ref mno, .ref mtr, .ref mse, .ref mba, .int ba_, .ref mim, .int km_, .int si_, .ref msi, .ref mfo, .int fm_, .ref mor, .ref mbo, .ref mma, .ref mbm, .ref mso])), (sa, .inl (V.2.2.1, 15, .inl (stF day w g)))] := hw_6.symm
        clear hw_6; subst hw_6x
        refine g_iload_n X dX11_areRight_27 rfl ?_
        refine g_icmp_gt X 35 dX11_areRight_28 (by decide) (fun c28_9 => ?_) (fun c28_9 => ?_)
        · have c28_9d := Int32.not_le.mpr c28_9
          refine g_iconst X (0) dX11_areRight_35 (by decide) ?_
          refine g_istore_n X (L' := [some (.ref mm), some (.ref sa), some (.int x), some (.int 0), some (.int (nI c))]) dX11_areRight_36 (by decide) rfl rfl ?_
          refine g_iinc X (v := nI (c + 1)) (L' := [some (.ref mm), some (.ref sa), some (.int x), some (.int 0), some (.int (nI (c + 1)))]) dX11_areRight_37 rfl (nI_addk (by decide)) (by decide) rfl rfl ?_
          refine g_goto X 5 dX11_areRight_40 (by decide) ?_
          exact ih5 (c + 1) (by omega) 0 (by rw [wiF_s1 (by rw [← h1]; exact c15_3)]; simp [c28_9, c28_9d])
        · have c28_9d := Int32.not_lt.mp c28_9
          refine g_iconst X (1) dX11_areRight_31 (by decide) ?_
          refine g_goto X 36 dX11_areRight_32 (by decide) ?_
          refine g_istore_n X (L' := [some (.ref mm), some (.ref sa), some (.int x), some (.int 1), some (.int (nI c))]) dX11_areRight_36 (by decide) rfl rfl ?_
          refine g_iinc X (v := nI (c + 1)) (L' := [some (.ref mm), some (.ref sa), some (.int x), some (.int 1), some (.int (nI (c + 1)))]) dX11_areRight_37 rfl (nI_addk (by decide)) (by decide) rfl rfl ?_
          refine g_goto X 5 dX11_areRight_40 (by decide) ?_
          exact ih5 (c + 1) (by omega) 1 (by rw [wiF_s1 (by rw [← h1]; exact c15_3)]; simp [c28_9, c28_9d])
  exact loop5 n 0 (by omega) 1 rfl

set_option maxHeartbeats 4000000 in
set_option maxRecDepth 100000 in
theorem c_X11_teaches_yes (V : gV) (mm : Nat) (mtx : Nat) (mnu : Nat) (mrc : Nat) (mrw : Nat) (mrl : Nat) (mki : Nat) (mwa : Nat) (mle : Nat) (mno : Nat) (mtr : Nat) (mse : Nat) (mba : Nat) (mim : Nat) (msi : Nat) (mfo : Nat) (mor : Nat) (mbo : Nat) (mma : Nat) (mbm : Nat) (mso : Nat) (le_ : Int32) (po_ : Int32) (fa_ : Int32) (rcl_ : Int32) (rle_ : Int32) (n : Nat) (ls_ : Int32) (ba_ : Int32) (km_ : Int32) (si_ : Int32) (fm_ : Int32) (k : Nat → Int32) (day : Int32) (w : Nat → Int32) (g : Nat → Int32) (sa : Nat) (code : Nat) (hn : n ≤ 7) (hcd : code < 1000) (hB : Bd n w) (hok : tOK k day n code) : Ki V yX11_teaches cX11_teaches 5 .boolean ({ frames := 2, cells := 0, slots := 0, locals := 47 }) [.ref mm, .ref sa, .int (nI code)] [(mm, .inr (11, [.int le_, .ref mtx, .int po_, .ref mnu, .int fa_, .int rcl_, .int rle_, .ref mrc, .ref mrw, .ref mrl, .int (nI n), .ref mki, .ref mwa, .int ls_, .ref mle, .ref mno, .ref mtr, .ref mse, .ref mba, .int ba_, .ref mim, .int km_, .int si_, .ref msi, .ref mfo, .int fm_, .ref mor, .ref mbo, .ref mma, .ref mbm, .ref mso])), (mki, .inl (V.2.2.1, 7, .inl k)), (sa, .inl (V.2.2.1, 15, .inl (stF day w g)))] (fun (r : Int32) (u : Unit) => r = 1) (fun u => [(mm, .inr (11, [.int le_, .ref mtx, .int po_, .ref mnu, .int fa_, .int rcl_, .int rle_, .ref mrc, .ref mrw, .ref mrl, .int (nI n), .ref mki, .ref mwa, .int ls_, .ref mle, .ref mno, .ref mtr, .ref mse, .ref mba, .int ba_, .ref mim, .int km_, .int si_, .ref msi, .ref mfo, .int fm_, .ref mor, .ref mbo, .ref mma, .ref mbm, .ref mso])), (mki, .inl (V.2.2.1, 7, .inl k)), (sa, .inl (V.2.2.1, 15, .inl (stF day (tLe k day code w) g)))]) := by
  refine Ki.of [some (.ref mm), some (.ref sa), some (.int (nI code)), none, none] (by decide) (Nat.le_of_ble_eq_true rfl) rfl rfl ?_
  intro Z X E
  have X : gX V Z RX11 cX11_teaches 5 ({ frames := 2, cells := 0, slots := 0, locals := 47 }) := X
  have hq1 := hok.1
  have hq2 := hok.2.1
  have hq3 := hok.2.2.1
  refine g_iload_n X dX11_teaches_0 rfl ?_
  refine g_bipush X (10) dX11_teaches_1 (by decide) ?_
  refine g_idiv X dX11_teaches_3 (by decide) ?_
  refine g_toe (x' := nI (code / 10)) (nI_div' rfl rfl (by omega) (by omega) (by omega)) ?_
  refine g_istore_n X (L' := [some (.ref mm), some (.ref sa), some (.int (nI code)), some (.int (nI (code / 10))), none]) dX11_teaches_4 (by decide) rfl rfl ?_
  refine g_iload_n X dX11_teaches_5 rfl ?_
  refine g_bipush X (10) dX11_teaches_6 (by decide) ?_
  refine g_rem X dX11_teaches_8 (by decide) ?_
  refine g_toe (x' := nI (code % 10)) (nI_mod' rfl rfl (by omega) (by omega) (by omega)) ?_
  refine g_istore X (L' := [some (.ref mm), some (.ref sa), some (.int (nI code)), some (.int (nI (code / 10))), some (.int (nI (code % 10)))]) dX11_teaches_9 (by decide) rfl rfl ?_
  refine g_iload_n X dX11_teaches_11 rfl ?_
  refine g_aload_n X dX11_teaches_12 rfl ?_
  refine g_get X uwX11 0 rfl rfl 10 (by decide) kl_X11_91 rfl rfl gwX11 dX11_teaches_13 ?_
  refine g_icmp_ge X 44 dX11_teaches_16 (by decide) (fun c16_1 => absurd c16_1 (fge (a := code / 10) (b := n) (by omega) (by omega) (by omega))) (fun c16_1 => ?_)
  refine g_iload X dX11_teaches_19 rfl ?_
  refine g_aload_n X dX11_teaches_21 rfl ?_
  refine g_get X uwX11 0 rfl rfl 10 (by decide) kl_X11_91 rfl rfl gwX11 dX11_teaches_22 ?_
  refine g_icmp_ge X 44 dX11_teaches_25 (by decide) (fun c25_2 => absurd c25_2 (fge (a := code % 10) (b := n) (by omega) (by omega) (by omega))) (fun c25_2 => ?_)
  refine g_iload_n X dX11_teaches_28 rfl ?_
  refine g_iload X dX11_teaches_29 rfl ?_
  refine g_icmp_eq X 44 dX11_teaches_31 (by decide) (fun c31_3 => absurd c31_3 (feq (a := code / 10) (b := code % 10) (by omega) (by omega) (by omega))) (fun c31_3 => ?_)
  refine g_aload_n X dX11_teaches_34 rfl ?_
  refine g_aload_n X dX11_teaches_35 rfl ?_
  refine g_iload X dX11_teaches_36 rfl ?_
  refine g_callVi X (c_X11_isTaught V mm mtx mnu mrc mrw mrl mki mwa mle mno mtr mse mba mim msi mfo mor mbo mma mbm mso le_ po_ fa_ rcl_ rle_ (nI n) ls_ ba_ km_ si_ fm_ k day w g sa (code % 10) (by omega)) mo_X11_isTaught kl_X11_144 [0, 1, 2] [1, 2, 3] rfl (by decide +kernel) rfl rfl (fun _ => Nat.le_of_ble_eq_true rfl) 0 11 rfl rfl (As := [.ref sa, .int (nI (code % 10))]) (st := []) (cs' := (0, 0)) rfl rfl rfl rfl dX11_teaches_38 (fun r_8 u_4 hp_5 ws_7 hw_6 => ?_)
  obtain rfl : r_8 = canF (k (code % 10)) day := hp_5
  have hw_6x : ws_7 = [(mm, .inr (11, [.int le_, .ref mtx, .int po_, .ref mnu, .int fa_, .int rcl_, .int rle_, .ref mrc, .ref mrw, .ref mrl, .int (nI n), .ref mki, .ref mwa, .int ls_, .ref mle, .ref mno, .ref mtr, .ref mse, .ref mba, .int ba_, .ref mim, .int km_, .int si_, .ref msi, .ref mfo, .int fm_, .ref mor, .ref mbo, .ref mma, .ref mbm, .ref mso])), (mki, .inl (V.2.2.1, 7, .inl k)), (sa, .inl (V.2.2.1, 15, .inl (stF day w g)))] := hw_6.symm
  clear hw_6; subst hw_6x
  refine g_if_ne X 46 dX11_teaches_41 (by decide) (fun c41_9 => ?_) (fun c41_9 => absurd c41_9 hok.2.2.2)
  refine g_aload_n X dX11_teaches_46 rfl ?_
  refine g_aload_n X dX11_teaches_47 rfl ?_
  refine g_iload_n X dX11_teaches_48 rfl ?_
  refine g_iload X dX11_teaches_49 rfl ?_
  refine g_callVv X (c_X11_teachOn V mm mtx mnu mrc mrw mrl mki mwa mle mno mtr mse mba mim msi mfo mor mbo mma mbm mso le_ po_ fa_ rcl_ rle_ n ls_ ba_ km_ si_ fm_ k day w g sa (code / 10) (code % 10) (by omega) (by omega) (by omega) (by omega)) mo_X11_teachOn kl_X11_154 [0, 1, 2] [1, 2, 3] rfl (by decide +kernel) rfl rfl (fun _ => Nat.le_of_ble_eq_true rfl) 0 11 rfl rfl (As := [.ref sa, .int (nI (code / 10)), .int (nI (code % 10))]) (st := []) (cs' := (0, 0)) rfl rfl rfl rfl dX11_teaches_51 (fun nw_10 hp_11 ws_13 hw_12 => ?_)
  obtain rfl : nw_10 = learnF k day (code / 10) (code % 10) w := hp_11
  have hw_12x : ws_13 = [(mm, .inr (11, [.int le_, .ref mtx, .int po_, .ref mnu, .int fa_, .int rcl_, .int rle_, .ref mrc, .ref mrw, .ref mrl, .int (nI n), .ref mki, .ref mwa, .int ls_, .ref mle, .ref mno, .ref mtr, .ref mse, .ref mba, .int ba_, .ref mim, .int km_, .int si_, .ref msi, .ref mfo, .int fm_, .ref mor, .ref mbo, .ref mma, .ref mbm, .ref mso])), (mki, .inl (V.2.2.1, 7, .inl k)), (sa, .inl (V.2.2.1, 15, .inl (stF day (learnF k day (code / 10) (code % 10) w) g)))] := hw_12.symm
  clear hw_12; subst hw_12x
  refine g_iconst X (1) dX11_teaches_54 (by decide) ?_
  exact g_zret X E dX11_teaches_55 () 1 rfl (by first | rfl | (simp [c16_1, c25_2, c31_3, c41_9]; done)) rfl

set_option maxHeartbeats 4000000 in
set_option maxRecDepth 100000 in
theorem c_X11_teaches_no (V : gV) (mm : Nat) (mtx : Nat) (mnu : Nat) (mrc : Nat) (mrw : Nat) (mrl : Nat) (mki : Nat) (mwa : Nat) (mle : Nat) (mno : Nat) (mtr : Nat) (mse : Nat) (mba : Nat) (mim : Nat) (msi : Nat) (mfo : Nat) (mor : Nat) (mbo : Nat) (mma : Nat) (mbm : Nat) (mso : Nat) (le_ : Int32) (po_ : Int32) (fa_ : Int32) (rcl_ : Int32) (rle_ : Int32) (n : Nat) (ls_ : Int32) (ba_ : Int32) (km_ : Int32) (si_ : Int32) (fm_ : Int32) (k : Nat → Int32) (day : Int32) (w : Nat → Int32) (g : Nat → Int32) (sa : Nat) (code : Nat) (hn : n ≤ 7) (hcd : code < 1000) (hok : ¬ tOK k day n code) : Ki V yX11_teaches cX11_teaches 5 .boolean ({ frames := 1, cells := 0, slots := 0, locals := 22 }) [.ref mm, .ref sa, .int (nI code)] [(mm, .inr (11, [.int le_, .ref mtx, .int po_, .ref mnu, .int fa_, .int rcl_, .int rle_, .ref mrc, .ref mrw, .ref mrl, .int (nI n), .ref mki, .ref mwa, .int ls_, .ref mle, .ref mno, .ref mtr, .ref mse, .ref mba, .int ba_, .ref mim, .int km_, .int si_, .ref msi, .ref mfo, .int fm_, .ref mor, .ref mbo, .ref mma, .ref mbm, .ref mso])), (mki, .inl (V.2.2.1, 7, .inl k)), (sa, .inl (V.2.2.1, 15, .inl (stF day w g)))] (fun (r : Int32) (u : Unit) => r = 0) (fun u => [(mm, .inr (11, [.int le_, .ref mtx, .int po_, .ref mnu, .int fa_, .int rcl_, .int rle_, .ref mrc, .ref mrw, .ref mrl, .int (nI n), .ref mki, .ref mwa, .int ls_, .ref mle, .ref mno, .ref mtr, .ref mse, .ref mba, .int ba_, .ref mim, .int km_, .int si_, .ref msi, .ref mfo, .int fm_, .ref mor, .ref mbo, .ref mma, .ref mbm, .ref mso])), (mki, .inl (V.2.2.1, 7, .inl k)), (sa, .inl (V.2.2.1, 15, .inl (stF day w g)))]) := by
  refine Ki.of [some (.ref mm), some (.ref sa), some (.int (nI code)), none, none] (by decide) (Nat.le_of_ble_eq_true rfl) rfl rfl ?_
  intro Z X E
  have X : gX V Z RX11 cX11_teaches 5 ({ frames := 1, cells := 0, slots := 0, locals := 22 }) := X
  refine g_iload_n X dX11_teaches_0 rfl ?_
  refine g_bipush X (10) dX11_teaches_1 (by decide) ?_
  refine g_idiv X dX11_teaches_3 (by decide) ?_
  refine g_toe (x' := nI (code / 10)) (nI_div' rfl rfl (by omega) (by omega) (by omega)) ?_
  refine g_istore_n X (L' := [some (.ref mm), some (.ref sa), some (.int (nI code)), some (.int (nI (code / 10))), none]) dX11_teaches_4 (by decide) rfl rfl ?_
  refine g_iload_n X dX11_teaches_5 rfl ?_
  refine g_bipush X (10) dX11_teaches_6 (by decide) ?_
  refine g_rem X dX11_teaches_8 (by decide) ?_
  refine g_toe (x' := nI (code % 10)) (nI_mod' rfl rfl (by omega) (by omega) (by omega)) ?_
  refine g_istore X (L' := [some (.ref mm), some (.ref sa), some (.int (nI code)), some (.int (nI (code / 10))), some (.int (nI (code % 10)))]) dX11_teaches_9 (by decide) rfl rfl ?_
  refine g_iload_n X dX11_teaches_11 rfl ?_
  refine g_aload_n X dX11_teaches_12 rfl ?_
  refine g_get X uwX11 0 rfl rfl 10 (by decide) kl_X11_91 rfl rfl gwX11 dX11_teaches_13 ?_
  refine g_icmp_ge X 44 dX11_teaches_16 (by decide) (fun c16_1 => ?_) (fun c16_1 => ?_)
  · have c16_1n := ige' (a := code / 10) (b := n) c16_1 (by omega) (by omega)
    refine g_iconst X (0) dX11_teaches_44 (by decide) ?_
    exact g_zret X E dX11_teaches_45 () 0 rfl (by first | rfl | (simp [c16_1, c16_1n]; done)) rfl
  · have c16_1n := inge' (a := code / 10) (b := n) c16_1 (by omega) (by omega)
    refine g_iload X dX11_teaches_19 rfl ?_
    refine g_aload_n X dX11_teaches_21 rfl ?_
    refine g_get X uwX11 0 rfl rfl 10 (by decide) kl_X11_91 rfl rfl gwX11 dX11_teaches_22 ?_
    refine g_icmp_ge X 44 dX11_teaches_25 (by decide) (fun c25_2 => ?_) (fun c25_2 => ?_)
    · have c25_2n := ige' (a := code % 10) (b := n) c25_2 (by omega) (by omega)
      refine g_iconst X (0) dX11_teaches_44 (by decide) ?_
      exact g_zret X E dX11_teaches_45 () 0 rfl (by first | rfl | (simp [c16_1, c16_1n, c25_2, c25_2n]; done)) rfl
    · have c25_2n := inge' (a := code % 10) (b := n) c25_2 (by omega) (by omega)
      refine g_iload_n X dX11_teaches_28 rfl ?_
      refine g_iload X dX11_teaches_29 rfl ?_
      refine g_icmp_eq X 44 dX11_teaches_31 (by decide) (fun c31_3 => ?_) (fun c31_3 => ?_)
      · have c31_3n := ieq' (a := code / 10) (b := code % 10) c31_3 (by omega) (by omega)
        refine g_iconst X (0) dX11_teaches_44 (by decide) ?_
        exact g_zret X E dX11_teaches_45 () 0 rfl (by first | rfl | (simp [c16_1, c16_1n, c25_2, c25_2n, c31_3, c31_3n]; done)) rfl
      · have c31_3n := ine' (a := code / 10) (b := code % 10) c31_3 (by omega) (by omega)
        refine g_aload_n X dX11_teaches_34 rfl ?_
        refine g_aload_n X dX11_teaches_35 rfl ?_
        refine g_iload X dX11_teaches_36 rfl ?_
        refine g_callVi X (c_X11_isTaught V mm mtx mnu mrc mrw mrl mki mwa mle mno mtr mse mba mim msi mfo mor mbo mma mbm mso le_ po_ fa_ rcl_ rle_ (nI n) ls_ ba_ km_ si_ fm_ k day w g sa (code % 10) (by omega)) mo_X11_isTaught kl_X11_144 [0, 1, 2] [1, 2, 3] rfl (by decide +kernel) rfl rfl (fun _ => Nat.le_of_ble_eq_true rfl) 0 11 rfl rfl (As := [.ref sa, .int (nI (code % 10))]) (st := []) (cs' := (0, 0)) rfl rfl rfl rfl dX11_teaches_38 (fun r_8 u_4 hp_5 ws_7 hw_6 => ?_)
        obtain rfl : r_8 = canF (k (code % 10)) day := hp_5
        have hw_6x : ws_7 = [(mm, .inr (11, [.int le_, .ref mtx, .int po_, .ref mnu, .int fa_, .int rcl_, .int rle_, .ref mrc, .ref mrw, .ref mrl, .int (nI n), .ref mki, .ref mwa, .int ls_, .ref mle, .ref mno, .ref mtr, .ref mse, .ref mba, .int ba_, .ref mim, .int km_, .int si_, .ref msi, .ref mfo, .int fm_, .ref mor, .ref mbo, .ref mma, .ref mbm, .ref mso])), (mki, .inl (V.2.2.1, 7, .inl k)), (sa, .inl (V.2.2.1, 15, .inl (stF day w g)))] := hw_6.symm
        clear hw_6; subst hw_6x
        refine g_if_ne X 46 dX11_teaches_41 (by decide) (fun c41_9 => ?_) (fun c41_9 => ?_)
        · exact absurd ⟨by omega, by omega, by omega, c41_9⟩ hok
        · refine g_iconst X (0) dX11_teaches_44 (by decide) ?_
          exact g_zret X E dX11_teaches_45 () 0 rfl (by first | rfl | (simp [c16_1, c16_1n, c25_2, c25_2n, c31_3, c31_3n, c41_9]; done)) rfl

set_option maxHeartbeats 4000000 in
set_option maxRecDepth 100000 in
theorem c_X11_allWrong (V : gV) (mm : Nat) (mtx : Nat) (mnu : Nat) (mrc : Nat) (mrw : Nat) (mrl : Nat) (mki : Nat) (mwa : Nat) (mle : Nat) (mno : Nat) (mtr : Nat) (mse : Nat) (mba : Nat) (mim : Nat) (msi : Nat) (mfo : Nat) (mor : Nat) (mbo : Nat) (mma : Nat) (mbm : Nat) (mso : Nat) (le_ : Int32) (po_ : Int32) (fa_ : Int32) (rcl_ : Int32) (rle_ : Int32) (n : Nat) (ls_ : Int32) (ba_ : Int32) (km_ : Int32) (si_ : Int32) (fm_ : Int32) (day : Int32) (w : Nat → Int32) (g : Nat → Int32) (sa : Nat) (hn : n ≤ 7) : Ki V yX11_allWrong cX11_allWrong 4 .int ({ frames := 1, cells := 0, slots := 0, locals := 20 }) [.ref mm, .ref sa] [(mm, .inr (11, [.int le_, .ref mtx, .int po_, .ref mnu, .int fa_, .int rcl_, .int rle_, .ref mrc, .ref mrw, .ref mrl, .int (nI n), .ref mki, .ref mwa, .int ls_, .ref mle, .ref mno, .ref mtr, .ref mse, .ref mba, .int ba_, .ref mim, .int km_, .int si_, .ref msi, .ref mfo, .int fm_, .ref mor, .ref mbo, .ref mma, .ref mbm, .ref mso])), (sa, .inl (V.2.2.1, 15, .inl (stF day w g)))] (fun (r : Int32) (u : Unit) => r = togF n w) (fun u => [(mm, .inr (11, [.int le_, .ref mtx, .int po_, .ref mnu, .int fa_, .int rcl_, .int rle_, .ref mrc, .ref mrw, .ref mrl, .int (nI n), .ref mki, .ref mwa, .int ls_, .ref mle, .ref mno, .ref mtr, .ref mse, .ref mba, .int ba_, .ref mim, .int km_, .int si_, .ref msi, .ref mfo, .int fm_, .ref mor, .ref mbo, .ref mma, .ref mbm, .ref mso])), (sa, .inl (V.2.2.1, 15, .inl (stF day w g)))]) := by
  refine Ki.of [some (.ref mm), some (.ref sa), none, none] (by decide) (Nat.le_of_ble_eq_true rfl) rfl rfl ?_
  intro Z X E
  have X : gX V Z RX11 cX11_allWrong 4 ({ frames := 1, cells := 0, slots := 0, locals := 20 }) := X
  refine g_iconst X (0) dX11_allWrong_0 (by decide) ?_
  refine g_istore_n X (L' := [some (.ref mm), some (.ref sa), some (.int 0), none]) dX11_allWrong_1 (by decide) rfl rfl ?_
  refine g_iconst X (0) dX11_allWrong_2 (by decide) ?_
  refine g_istore_n X (L' := [some (.ref mm), some (.ref sa), some (.int 0), some (.int 0)]) dX11_allWrong_3 (by decide) rfl rfl ?_
  have loop4 : ∀ (d4 c : Nat), c + d4 = n → ∀ (o : Int32) (h1 : o = togF c w), G V Z 4 (0, 0) [(mm, .inr (11, [.int le_, .ref mtx, .int po_, .ref mnu, .int fa_, .int rcl_, .int rle_, .ref mrc, .ref mrw, .ref mrl, .int (nI n), .ref mki, .ref mwa, .int ls_, .ref mle, .ref mno, .ref mtr, .ref mse, .ref mba, .int ba_, .ref mim, .int km_, .int si_, .ref msi, .ref mfo, .int fm_, .ref mor, .ref mbo, .ref mma, .ref mbm, .ref mso])), (sa, .inl (V.2.2.1, 15, .inl (stF day w g)))] 4 [some (.ref mm), some (.ref sa), some (.int o), some (.int (nI c))] [] := by
    intro d4
    induction d4 with
    | zero =>
      intro c hc o h1
      refine g_iload_n X dX11_allWrong_4 rfl ?_
      refine g_aload_n X dX11_allWrong_5 rfl ?_
      refine g_get X uwX11 0 rfl rfl 10 (by decide) kl_X11_91 rfl rfl gwX11 dX11_allWrong_6 ?_
      refine g_icmp_ge X 29 dX11_allWrong_9 (by decide) (fun c9_1 => ?_) (fun c9_1 => absurd (tge (a := c) (b := n) (by omega) (by omega) (by omega)) c9_1)
      refine g_iload_n X dX11_allWrong_29 rfl ?_
      exact g_iret X E dX11_allWrong_30 () o (by have e : c = n := (by omega); subst e; rw [h1]) rfl
    | succ d4 ih4 =>
      intro c hc o h1
      refine g_iload_n X dX11_allWrong_4 rfl ?_
      refine g_aload_n X dX11_allWrong_5 rfl ?_
      refine g_get X uwX11 0 rfl rfl 10 (by decide) kl_X11_91 rfl rfl gwX11 dX11_allWrong_6 ?_
      refine g_icmp_ge X 29 dX11_allWrong_9 (by decide) (fun c9_2 => absurd c9_2 (fge (a := c) (b := n) (by omega) (by omega) (by omega))) (fun c9_2 => ?_)
      refine g_iload_n X dX11_allWrong_12 rfl ?_
      refine g_aload_n X dX11_allWrong_13 rfl ?_
      refine g_iconst X (1) dX11_allWrong_14 (by decide) ?_
      refine g_iload_n X dX11_allWrong_15 rfl ?_
      refine g_iadd X dX11_allWrong_16 ?_
      refine g_toe (x' := nI (1 + c)) (nI_add' rfl rfl) ?_
      refine g_iald' X 1 rfl (i := (1 + c)) rfl (by omega) (by omega) dX11_allWrong_17 ?_
      refine g_toe (x' := w c) (stF_w _ _ _ c (by omega)) ?_
      refine g_callSi X (c_X11_far V (w c)) mo_X11_far kl_X11_151 [] [0, 0] rfl (by decide +kernel) rfl rfl (fun _ => Nat.le_of_ble_eq_true rfl) (As := [.int (w c)]) (st := [.int o]) (cs' := (0, 0)) rfl rfl rfl dX11_allWrong_18 (fun r_7 u_3 hp_4 ws_6 hw_5 => ?_)
      obtain rfl : r_7 = absF (w c) := hp_4
      have hw_5x : ws_6 = [(mm, .inr (11, [.int le_, .ref mtx, .int po_, .ref mnu, .int fa_, .int rcl_, .int rle_, .ref mrc, .ref mrw, .ref mrl, .int (nI n), .ref mki, .ref mwa, .int ls_, .ref mle, .ref mno, .ref mtr, .ref mse, .ref mba, .int ba_, .ref mim, .int km_, .int si_, .ref msi, .ref mfo, .int fm_, .ref mor, .ref mbo, .ref mma, .ref mbm, .ref mso])), (sa, .inl (V.2.2.1, 15, .inl (stF day w g)))] := hw_5.symm
      clear hw_5; subst hw_5x
      refine g_iadd X dX11_allWrong_21 ?_
      refine g_istore_n X (L' := [some (.ref mm), some (.ref sa), some (.int (o + (absF (w c)))), some (.int (nI c))]) dX11_allWrong_22 (by decide) rfl rfl ?_
      refine g_iinc X (v := nI (c + 1)) (L' := [some (.ref mm), some (.ref sa), some (.int (o + (absF (w c)))), some (.int (nI (c + 1)))]) dX11_allWrong_23 rfl (nI_addk (by decide)) (by decide) rfl rfl ?_
      refine g_goto X 4 dX11_allWrong_26 (by decide) ?_
      exact ih4 (c + 1) (by omega) (o + (absF (w c))) (by rw [togF, it_s, ← togF, ← h1])
  exact loop4 n 0 (by omega) 0 rfl

set_option maxHeartbeats 4000000 in
set_option maxRecDepth 100000 in
theorem c_X11_isSo (V : gV) (mm : Nat) (mtx : Nat) (mnu : Nat) (mrc : Nat) (mrw : Nat) (mrl : Nat) (mki : Nat) (mwa : Nat) (mle : Nat) (mno : Nat) (mtr : Nat) (mse : Nat) (mba : Nat) (mim : Nat) (msi : Nat) (mfo : Nat) (mor : Nat) (mbo : Nat) (mma : Nat) (mbm : Nat) (mso : Nat) (le_ : Int32) (po_ : Int32) (fa_ : Int32) (rcl_ : Int32) (rle_ : Int32) (cl_ : Int32) (ls_ : Int32) (ba_ : Int32) (km_ : Int32) (z : Nat) (fm_ : Int32) (rc : Nat → Nat) (rm : Nat → Int32) (day : Int32) (w : Nat → Int32) (g : Nat → Int32) (sa : Nat) (hz : z ≤ 6) (hr : ∀ i, i < z → rc i < 7) : Ki V yX11_isSo cX11_isSo 4 .boolean ({ frames := 0, cells := 0, slots := 0, locals := 0 }) [.ref mm, .ref sa] [(mm, .inr (11, [.int le_, .ref mtx, .int po_, .ref mnu, .int fa_, .int rcl_, .int rle_, .ref mrc, .ref mrw, .ref mrl, .int cl_, .ref mki, .ref mwa, .int ls_, .ref mle, .ref mno, .ref mtr, .ref mse, .ref mba, .int ba_, .ref mim, .int km_, .int (nI z), .ref msi, .ref mfo, .int fm_, .ref mor, .ref mbo, .ref mma, .ref mbm, .ref mso])), (msi, .inl (V.2.2.1, 12, .inl (siF rc rm))), (sa, .inl (V.2.2.1, 15, .inl (stF day w g)))] (fun (r : Int32) (u : Unit) => r = fitF z rc rm w) (fun u => [(mm, .inr (11, [.int le_, .ref mtx, .int po_, .ref mnu, .int fa_, .int rcl_, .int rle_, .ref mrc, .ref mrw, .ref mrl, .int cl_, .ref mki, .ref mwa, .int ls_, .ref mle, .ref mno, .ref mtr, .ref mse, .ref mba, .int ba_, .ref mim, .int km_, .int (nI z), .ref msi, .ref mfo, .int fm_, .ref mor, .ref mbo, .ref mma, .ref mbm, .ref mso])), (msi, .inl (V.2.2.1, 12, .inl (siF rc rm))), (sa, .inl (V.2.2.1, 15, .inl (stF day w g)))]) := by
  refine Ki.of [some (.ref mm), some (.ref sa), none, none] (by decide) (Nat.le_of_ble_eq_true rfl) rfl rfl ?_
  intro Z X E
  have X : gX V Z RX11 cX11_isSo 4 ({ frames := 0, cells := 0, slots := 0, locals := 0 }) := X
  refine g_iconst X (1) dX11_isSo_0 (by decide) ?_
  refine g_istore_n X (L' := [some (.ref mm), some (.ref sa), some (.int 1), none]) dX11_isSo_1 (by decide) rfl rfl ?_
  refine g_iconst X (0) dX11_isSo_2 (by decide) ?_
  refine g_istore_n X (L' := [some (.ref mm), some (.ref sa), some (.int 1), some (.int 0)]) dX11_isSo_3 (by decide) rfl rfl ?_
  have loop4 : ∀ (d4 i : Nat), i + d4 = z → ∀ (is_ : Int32) (h1 : is_ = fitF i rc rm w), G V Z 4 (0, 0) [(mm, .inr (11, [.int le_, .ref mtx, .int po_, .ref mnu, .int fa_, .int rcl_, .int rle_, .ref mrc, .ref mrw, .ref mrl, .int cl_, .ref mki, .ref mwa, .int ls_, .ref mle, .ref mno, .ref mtr, .ref mse, .ref mba, .int ba_, .ref mim, .int km_, .int (nI z), .ref msi, .ref mfo, .int fm_, .ref mor, .ref mbo, .ref mma, .ref mbm, .ref mso])), (msi, .inl (V.2.2.1, 12, .inl (siF rc rm))), (sa, .inl (V.2.2.1, 15, .inl (stF day w g)))] 4 [some (.ref mm), some (.ref sa), some (.int is_), some (.int (nI i))] [] := by
    intro d4
    induction d4 with
    | zero =>
      intro i hi is_ h1
      refine g_iload_n X dX11_isSo_4 rfl ?_
      refine g_aload_n X dX11_isSo_5 rfl ?_
      refine g_get X uwX11 0 rfl rfl 22 (by decide) kl_X11_131 rfl rfl gwX11 dX11_isSo_6 ?_
      refine g_icmp_ge X 53 dX11_isSo_9 (by decide) (fun c9_1 => ?_) (fun c9_1 => absurd (tge (a := i) (b := z) (by omega) (by omega) (by omega)) c9_1)
      refine g_iload_n X dX11_isSo_53 rfl ?_
      exact g_zret X E dX11_isSo_54 () is_ (by have e : i = z := (by omega); subst e; rw [h1]; exact fit_bool _ _ _ _) (by have e : i = z := (by omega); subst e; exact h1) rfl
    | succ d4 ih4 =>
      intro i hi is_ h1
      refine g_iload_n X dX11_isSo_4 rfl ?_
      refine g_aload_n X dX11_isSo_5 rfl ?_
      refine g_get X uwX11 0 rfl rfl 22 (by decide) kl_X11_131 rfl rfl gwX11 dX11_isSo_6 ?_
      refine g_icmp_ge X 53 dX11_isSo_9 (by decide) (fun c9_2 => absurd c9_2 (fge (a := i) (b := z) (by omega) (by omega) (by omega))) (fun c9_2 => ?_)
      refine g_iload_n X dX11_isSo_12 rfl ?_
      refine g_if_eq X 45 dX11_isSo_13 (by decide) (fun c13_3 => ?_) (fun c13_3 => ?_)
      · refine g_iconst X (0) dX11_isSo_45 (by decide) ?_
        refine g_istore_n X (L' := [some (.ref mm), some (.ref sa), some (.int 0), some (.int (nI i))]) dX11_isSo_46 (by decide) rfl rfl ?_
        refine g_iinc X (v := nI (i + 1)) (L' := [some (.ref mm), some (.ref sa), some (.int 0), some (.int (nI (i + 1)))]) dX11_isSo_47 rfl (nI_addk (by decide)) (by decide) rfl rfl ?_
        refine g_goto X 4 dX11_isSo_50 (by decide) ?_
        exact ih4 (i + 1) (by omega) 0 (by rw [fitF_s0 (by rw [← h1]; exact c13_3)])
      · have hri := hr i (by omega)
        refine g_aload_n X dX11_isSo_16 rfl ?_
        refine g_iconst X (1) dX11_isSo_17 (by decide) ?_
        refine g_aload_n X dX11_isSo_18 rfl ?_
        refine g_get X uwX11 0 rfl rfl 23 (by decide) kl_X11_49 rfl rfl gwX11 dX11_isSo_19 ?_
        refine g_iconst X (2) dX11_isSo_22 (by decide) ?_
        refine g_iload_n X dX11_isSo_23 rfl ?_
        refine g_imul X dX11_isSo_24 ?_
        refine g_toe (x' := nI (2 * i)) (nI_mul' rfl rfl) ?_
        refine g_iald' X 1 rfl (i := (2 * i)) rfl (by omega) (by omega) dX11_isSo_25 ?_
        refine g_toe (x' := nI (rc i)) (siF_0 _ _ i) ?_
        refine g_iadd X dX11_isSo_26 ?_
        refine g_toe (x' := nI (1 + (rc i))) (nI_add' rfl rfl) ?_
        refine g_iald' X 2 rfl (i := (1 + (rc i))) rfl (by omega) (by omega) dX11_isSo_27 ?_
        refine g_toe (x' := w (rc i)) (stF_w _ _ _ (rc i) (by omega)) ?_
        refine g_aload_n X dX11_isSo_28 rfl ?_
        refine g_get X uwX11 0 rfl rfl 23 (by decide) kl_X11_49 rfl rfl gwX11 dX11_isSo_29 ?_
        refine g_iconst X (2) dX11_isSo_32 (by decide) ?_
        refine g_iload_n X dX11_isSo_33 rfl ?_
        refine g_imul X dX11_isSo_34 ?_
        refine g_toe (x' := nI (2 * i)) (nI_mul' rfl rfl) ?_
        refine g_iconst X (1) dX11_isSo_35 (by decide) ?_
        refine g_iadd X dX11_isSo_36 ?_
        refine g_toe (x' := nI (2 * i + 1)) (nI_add' rfl rfl) ?_
        refine g_iald' X 1 rfl (i := (2 * i + 1)) rfl (by omega) (by omega) dX11_isSo_37 ?_
        refine g_toe (x' := rm i) (siF_1 _ _ i) ?_
        refine g_icmp_ne X 45 dX11_isSo_38 (by decide) (fun c38_4 => ?_) (fun c38_4 => ?_)
        · refine g_iconst X (0) dX11_isSo_45 (by decide) ?_
          refine g_istore_n X (L' := [some (.ref mm), some (.ref sa), some (.int 0), some (.int (nI i))]) dX11_isSo_46 (by decide) rfl rfl ?_
          refine g_iinc X (v := nI (i + 1)) (L' := [some (.ref mm), some (.ref sa), some (.int 0), some (.int (nI (i + 1)))]) dX11_isSo_47 rfl (nI_addk (by decide)) (by decide) rfl rfl ?_
          refine g_goto X 4 dX11_isSo_50 (by decide) ?_
          exact ih4 (i + 1) (by omega) 0 (by rw [fitF_s1 (by rw [← h1]; exact c13_3)]; simp [c38_4])
        · refine g_iconst X (1) dX11_isSo_41 (by decide) ?_
          refine g_goto X 46 dX11_isSo_42 (by decide) ?_
          refine g_istore_n X (L' := [some (.ref mm), some (.ref sa), some (.int 1), some (.int (nI i))]) dX11_isSo_46 (by decide) rfl rfl ?_
          refine g_iinc X (v := nI (i + 1)) (L' := [some (.ref mm), some (.ref sa), some (.int 1), some (.int (nI (i + 1)))]) dX11_isSo_47 rfl (nI_addk (by decide)) (by decide) rfl rfl ?_
          refine g_goto X 4 dX11_isSo_50 (by decide) ?_
          exact ih4 (i + 1) (by omega) 1 (by rw [fitF_s1 (by rw [← h1]; exact c13_3)]; simp [c38_4])
  exact loop4 z 0 (by omega) 1 rfl

set_option maxHeartbeats 4000000 in
set_option maxRecDepth 100000 in
theorem c_X11_layRight (V : gV) (mm : Nat) (mtx : Nat) (mnu : Nat) (mrc : Nat) (mrw : Nat) (mrl : Nat) (mki : Nat) (mwa : Nat) (mle : Nat) (mno : Nat) (mtr : Nat) (mse : Nat) (mba : Nat) (mim : Nat) (msi : Nat) (mfo : Nat) (mor : Nat) (mbo : Nat) (mma : Nat) (mbm : Nat) (mso : Nat) (le_ : Int32) (po_ : Int32) (fa_ : Int32) (rcl_ : Int32) (rle_ : Int32) (n : Nat) (ls_ : Int32) (ba_ : Int32) (km_ : Int32) (si_ : Int32) (fm_ : Int32) (k : Nat → Int32) (day : Int32) (w : Nat → Int32) (g : Nat → Int32) (fo : Nat → Int32) (tr : Nat → Int32) (se : Nat → Int32) (x : Int32) (hn : n ≤ 7) (hB : Bd n w) : Kv V yX11_layRight cX11_layRight 4 ({ frames := 3, cells := 0, slots := 0, locals := 71 }) [.ref mm, .int x] [(mm, .inr (11, [.int le_, .ref mtx, .int po_, .ref mnu, .int fa_, .int rcl_, .int rle_, .ref mrc, .ref mrw, .ref mrl, .int (nI n), .ref mki, .ref mwa, .int ls_, .ref mle, .ref mno, .ref mtr, .ref mse, .ref mba, .int ba_, .ref mim, .int km_, .int si_, .ref msi, .ref mfo, .int fm_, .ref mor, .ref mbo, .ref mma, .ref mbm, .ref mso])), (mki, .inl (V.2.2.1, 7, .inl k)), (mno, .inl (V.2.2.1, 15, .inl (stF day w g))), (mtr, .inl (V.2.2.1, 15, .inl tr)), (mse, .inl (V.2.2.1, 15, .inl se)), (mfo, .inl (V.2.2.1, 2, .inl fo))] (fun u : Int32 × (Nat → Int32) × (Nat → Int32) × (Nat → Int32) => u.1 = (cureF k day n x w).1 ∧ (1 = u.1 ∨ 2 = u.1 → u.2.1 0 = (cureF k day n x w).2.1) ∧ (2 = u.1 → u.2.1 1 = (cureF k day n x w).2.2) ∧ (u.1 = 0 ∨ u.1 = 1 ∨ u.1 = 2 ∨ u.1 = -4)) (fun u => [(mm, .inr (11, [.int le_, .ref mtx, .int po_, .ref mnu, .int fa_, .int rcl_, .int rle_, .ref mrc, .ref mrw, .ref mrl, .int (nI n), .ref mki, .ref mwa, .int ls_, .ref mle, .ref mno, .ref mtr, .ref mse, .ref mba, .int ba_, .ref mim, .int km_, .int si_, .ref msi, .ref mfo, .int u.1, .ref mor, .ref mbo, .ref mma, .ref mbm, .ref mso])), (mki, .inl (V.2.2.1, 7, .inl k)), (mno, .inl (V.2.2.1, 15, .inl (stF day w g))), (mtr, .inl (V.2.2.1, 15, .inl u.2.2.1)), (mse, .inl (V.2.2.1, 15, .inl u.2.2.2)), (mfo, .inl (V.2.2.1, 2, .inl u.2.1))]) := by
  refine Kv.of [some (.ref mm), some (.int x), none, none] (by decide) (Nat.le_of_ble_eq_true rfl) rfl rfl ?_
  intro Z X E
  have X : gX V Z RX11 cX11_layRight 4 ({ frames := 3, cells := 0, slots := 0, locals := 71 }) := X
  refine g_aload_n X dX11_layRight_0 rfl ?_
  refine g_iconst X (0) dX11_layRight_1 (by decide) ?_
  refine g_put X uwX11 tyX11 tyX11_ok nmX11 0 rfl rfl 25 (by decide) kl_X11_176 rfl rfl rfl rfl (Nat.le_of_ble_eq_true rfl) gwX11 (ws' := [(mm, .inr (11, [.int le_, .ref mtx, .int po_, .ref mnu, .int fa_, .int rcl_, .int rle_, .ref mrc, .ref mrw, .ref mrl, .int (nI n), .ref mki, .ref mwa, .int ls_, .ref mle, .ref mno, .ref mtr, .ref mse, .ref mba, .int ba_, .ref mim, .int km_, .int si_, .ref msi, .ref mfo, .int 0, .ref mor, .ref mbo, .ref mma, .ref mbm, .ref mso])), (mki, .inl (V.2.2.1, 7, .inl k)), (mno, .inl (V.2.2.1, 15, .inl (stF day w g))), (mtr, .inl (V.2.2.1, 15, .inl tr)), (mse, .inl (V.2.2.1, 15, .inl se)), (mfo, .inl (V.2.2.1, 2, .inl fo))]) rfl dX11_layRight_2 ?_
  refine g_aload_n X dX11_layRight_5 rfl ?_
  refine g_aload_n X dX11_layRight_6 rfl ?_
  refine g_get X uwX11 0 rfl rfl 15 (by decide) kl_X11_34 rfl rfl gwX11 dX11_layRight_7 ?_
  refine g_iload_n X dX11_layRight_10 rfl ?_
  refine g_callVi X (c_X11_areRight V mm mtx mnu mrc mrw mrl mki mwa mle mno mtr mse mba mim msi mfo mor mbo mma mbm mso le_ po_ fa_ rcl_ rle_ n ls_ ba_ km_ si_ 0 day w g mno x (by omega)) mo_X11_areRight kl_X11_179 [0, 2] [1, 0, 2, 0, 0, 0] rfl (by decide +kernel) rfl rfl (fun _ => Nat.le_of_ble_eq_true rfl) 0 11 rfl rfl (As := [.ref mno, .int x]) (st := []) (cs' := (0, 0)) rfl rfl rfl rfl dX11_layRight_11 (fun r_5 u_1 hp_2 ws_4 hw_3 => ?_)
  obtain rfl : r_5 = wiF n x w := hp_2
  have hw_3x : ws_4 = [(mm, .inr (11, [.int le_, .ref mtx, .int po_, .ref mnu, .int fa_, .int rcl_, .int rle_, .ref mrc, .ref mrw, .ref mrl, .int (nI n), .ref mki, .ref mwa, .int ls_, .ref mle, .ref mno, .ref mtr, .ref mse, .ref mba, .int ba_, .ref mim, .int km_, .int si_, .ref msi, .ref mfo, .int 0, .ref mor, .ref mbo, .ref mma, .ref mbm, .ref mso])), (mki, .inl (V.2.2.1, 7, .inl k)), (mno, .inl (V.2.2.1, 15, .inl (stF day w g))), (mtr, .inl (V.2.2.1, 15, .inl tr)), (mse, .inl (V.2.2.1, 15, .inl se)), (mfo, .inl (V.2.2.1, 2, .inl fo))] := hw_3.symm
  clear hw_3; subst hw_3x
  refine g_if_eq X 18 dX11_layRight_14 (by decide) (fun c14_6 => ?_) (fun c14_6 => ?_)
  · have w0_ := c14_6
    refine g_iconst X (0) dX11_layRight_18 (by decide) ?_
    refine g_istore_n X (L' := [some (.ref mm), some (.int x), some (.int 0), none]) dX11_layRight_19 (by decide) rfl rfl ?_
    have loop20_7 : ∀ (d20 a : Nat), a + d20 = 70 → ∀ (tr1 : Nat → Int32) (h1 : fst1 (m1F k day n x w) a = none), G V Z 4 (0, 0) [(mm, .inr (11, [.int le_, .ref mtx, .int po_, .ref mnu, .int fa_, .int rcl_, .int rle_, .ref mrc, .ref mrw, .ref mrl, .int (nI n), .ref mki, .ref mwa, .int ls_, .ref mle, .ref mno, .ref mtr, .ref mse, .ref mba, .int ba_, .ref mim, .int km_, .int si_, .ref msi, .ref mfo, .int 0, .ref mor, .ref mbo, .ref mma, .ref mbm, .ref mso])), (mki, .inl (V.2.2.1, 7, .inl k)), (mno, .inl (V.2.2.1, 15, .inl (stF day w g))), (mtr, .inl (V.2.2.1, 15, .inl tr1)), (mse, .inl (V.2.2.1, 15, .inl se)), (mfo, .inl (V.2.2.1, 2, .inl fo))] 20 [some (.ref mm), some (.int x), some (.int (nI a)), none] [] := by
      intro d20
      induction d20 with
      | zero =>
        intro a ha tr1 h1
        refine g_iload_n X dX11_layRight_20 rfl ?_
        refine g_bipush X (70) dX11_layRight_21 (by decide) ?_
        refine g_icmp_ge X 82 dX11_layRight_23 (by decide) (fun c23_8 => ?_) (fun c23_8 => absurd (tge (a := a) (b := 70) (by omega) (by omega) (by omega)) c23_8)
        have h70 : fst1 (m1F k day n x w) 70 = none := by have e : a = 70 := (by omega); subst e; exact h1
        refine g_iconst X (0) dX11_layRight_82 (by decide) ?_
        refine g_istore_n X (L' := [some (.ref mm), some (.int x), some (.int 0), none]) dX11_layRight_83 (by decide) rfl rfl ?_
        have loop84_9 : ∀ (d84 b : Nat), b + d84 = 70 → ∀ (tr2 : Nat → Int32) (se1 : Nat → Int32) (h2 : fst1 (m2F k day n x w) b = none), G V Z 4 (0, 0) [(mm, .inr (11, [.int le_, .ref mtx, .int po_, .ref mnu, .int fa_, .int rcl_, .int rle_, .ref mrc, .ref mrw, .ref mrl, .int (nI n), .ref mki, .ref mwa, .int ls_, .ref mle, .ref mno, .ref mtr, .ref mse, .ref mba, .int ba_, .ref mim, .int km_, .int si_, .ref msi, .ref mfo, .int 0, .ref mor, .ref mbo, .ref mma, .ref mbm, .ref mso])), (mki, .inl (V.2.2.1, 7, .inl k)), (mno, .inl (V.2.2.1, 15, .inl (stF day w g))), (mtr, .inl (V.2.2.1, 15, .inl tr2)), (mse, .inl (V.2.2.1, 15, .inl se1)), (mfo, .inl (V.2.2.1, 2, .inl fo))] 84 [some (.ref mm), some (.int x), some (.int (nI b)), none] [] := by
          intro d84
          induction d84 with
          | zero =>
            intro b hb tr2 se1 h2
            refine g_iload_n X dX11_layRight_84 rfl ?_
            refine g_bipush X (70) dX11_layRight_85 (by decide) ?_
            refine g_icmp_ge X 197 dX11_layRight_87 (by decide) (fun c87_10 => ?_) (fun c87_10 => absurd (tge (a := b) (b := 70) (by omega) (by omega) (by omega)) c87_10)
            refine g_aload_n X dX11_layRight_197 rfl ?_
            refine g_bipush X (-4) dX11_layRight_198 (by decide) ?_
            refine g_put X uwX11 tyX11 tyX11_ok nmX11 0 rfl rfl 25 (by decide) kl_X11_176 rfl rfl rfl rfl (Nat.le_of_ble_eq_true rfl) gwX11 (ws' := [(mm, .inr (11, [.int le_, .ref mtx, .int po_, .ref mnu, .int fa_, .int rcl_, .int rle_, .ref mrc, .ref mrw, .ref mrl, .int (nI n), .ref mki, .ref mwa, .int ls_, .ref mle, .ref mno, .ref mtr, .ref mse, .ref mba, .int ba_, .ref mim, .int km_, .int si_, .ref msi, .ref mfo, .int (-4), .ref mor, .ref mbo, .ref mma, .ref mbm, .ref mso])), (mki, .inl (V.2.2.1, 7, .inl k)), (mno, .inl (V.2.2.1, 15, .inl (stF day w g))), (mtr, .inl (V.2.2.1, 15, .inl tr2)), (mse, .inl (V.2.2.1, 15, .inl se1)), (mfo, .inl (V.2.2.1, 2, .inl fo))]) rfl dX11_layRight_200 ?_
            exact g_vret X E dX11_layRight_203 ⟨-4, fo, tr2, se1⟩ ⟨(by rw [cure_n hn w0_ h70 (by have e : b = 70 := (by omega); subst e; exact h2)]), (fun z => z.elim (fun h => absurd h (show ¬ ((1 : Int32) = (-4)) by decide)) (fun h => absurd h (show ¬ ((2 : Int32) = (-4)) by decide))), (fun z => absurd z (show ¬ ((2 : Int32) = (-4)) by decide)), (Or.inr (Or.inr (Or.inr rfl)))⟩ rfl
          | succ d84 ih84 =>
            intro b hb tr2 se1 h2
            refine g_iload_n X dX11_layRight_84 rfl ?_
            refine g_bipush X (70) dX11_layRight_85 (by decide) ?_
            refine g_icmp_ge X 197 dX11_layRight_87 (by decide) (fun c87_11 => absurd c87_11 (fge (a := b) (b := 70) (by omega) (by omega) (by omega))) (fun c87_11 => ?_)
            refine g_aload_n X dX11_layRight_90 rfl ?_
            refine g_get X uwX11 0 rfl rfl 15 (by decide) kl_X11_34 rfl rfl gwX11 dX11_layRight_91 ?_
            refine g_iconst X (0) dX11_layRight_94 (by decide) ?_
            refine g_aload_n X dX11_layRight_95 rfl ?_
            refine g_get X uwX11 0 rfl rfl 16 (by decide) kl_X11_37 rfl rfl gwX11 dX11_layRight_96 ?_
            refine g_iconst X (0) dX11_layRight_99 (by decide) ?_
            refine g_callSv X (c_X11_copy V mno 15 (stF day w g) mtr 15 tr2 0 0 (by omega) (by omega) (by omega) (by omega)) mo_X11_copy kl_X11_165 [2, 3] [0, 0, 1, 2, 0, 0] rfl (by decide +kernel) rfl rfl (fun _ => Nat.le_of_ble_eq_true rfl) (As := [.ref mno, .int 0, .ref mtr, .int 0]) (st := []) (cs' := (0, 0)) rfl rfl rfl dX11_layRight_100 (fun u_12 hp_13 ws_15 hw_14 => ?_)
            have hw_14x : ws_15 = [(mm, .inr (11, [.int le_, .ref mtx, .int po_, .ref mnu, .int fa_, .int rcl_, .int rle_, .ref mrc, .ref mrw, .ref mrl, .int (nI n), .ref mki, .ref mwa, .int ls_, .ref mle, .ref mno, .ref mtr, .ref mse, .ref mba, .int ba_, .ref mim, .int km_, .int si_, .ref msi, .ref mfo, .int 0, .ref mor, .ref mbo, .ref mma, .ref mbm, .ref mso])), (mki, .inl (V.2.2.1, 7, .inl k)), (mno, .inl (V.2.2.1, 15, .inl (stF day w g))), (mtr, .inl (V.2.2.1, 15, .inl (cpM 0 0 (stF day w g) tr2))), (mse, .inl (V.2.2.1, 15, .inl se1)), (mfo, .inl (V.2.2.1, 2, .inl fo))] := hw_14.symm
            clear hw_14; subst hw_14x
            refine g_arr 3 (stF day w g) rfl cpM_0 (ws' := [(mm, .inr (11, [.int le_, .ref mtx, .int po_, .ref mnu, .int fa_, .int rcl_, .int rle_, .ref mrc, .ref mrw, .ref mrl, .int (nI n), .ref mki, .ref mwa, .int ls_, .ref mle, .ref mno, .ref mtr, .ref mse, .ref mba, .int ba_, .ref mim, .int km_, .int si_, .ref msi, .ref mfo, .int 0, .ref mor, .ref mbo, .ref mma, .ref mbm, .ref mso])), (mki, .inl (V.2.2.1, 7, .inl k)), (mno, .inl (V.2.2.1, 15, .inl (stF day w g))), (mtr, .inl (V.2.2.1, 15, .inl (stF day w g))), (mse, .inl (V.2.2.1, 15, .inl se1)), (mfo, .inl (V.2.2.1, 2, .inl fo))]) rfl ?_
            refine g_aload_n X dX11_layRight_103 rfl ?_
            refine g_aload_n X dX11_layRight_104 rfl ?_
            refine g_get X uwX11 0 rfl rfl 16 (by decide) kl_X11_37 rfl rfl gwX11 dX11_layRight_105 ?_
            refine g_iload_n X dX11_layRight_108 rfl ?_
            by_cases hte109 : tOK k day n b
            · refine g_callVi X (c_X11_teaches_yes V mm mtx mnu mrc mrw mrl mki mwa mle mno mtr mse mba mim msi mfo mor mbo mma mbm mso le_ po_ fa_ rcl_ rle_ n ls_ ba_ km_ si_ 0 k day w g mtr b (by omega) (by omega) (by omega) hte109) mo_X11_teaches kl_X11_182 [0, 1, 3] [1, 2, 0, 3, 0, 0] rfl (by decide +kernel) rfl rfl (fun _ => Nat.le_of_ble_eq_true rfl) 0 11 rfl rfl (As := [.ref mtr, .int (nI b)]) (st := []) (cs' := (0, 0)) rfl rfl rfl rfl dX11_layRight_109 (fun r_21 u_17 hp_18 ws_20 hw_19 => ?_)
              obtain rfl : r_21 = 1 := hp_18
              have hw_19x : ws_20 = [(mm, .inr (11, [.int le_, .ref mtx, .int po_, .ref mnu, .int fa_, .int rcl_, .int rle_, .ref mrc, .ref mrw, .ref mrl, .int (nI n), .ref mki, .ref mwa, .int ls_, .ref mle, .ref mno, .ref mtr, .ref mse, .ref mba, .int ba_, .ref mim, .int km_, .int si_, .ref msi, .ref mfo, .int 0, .ref mor, .ref mbo, .ref mma, .ref mbm, .ref mso])), (mki, .inl (V.2.2.1, 7, .inl k)), (mno, .inl (V.2.2.1, 15, .inl (stF day w g))), (mtr, .inl (V.2.2.1, 15, .inl (stF day (tLe k day b w) g))), (mse, .inl (V.2.2.1, 15, .inl se1)), (mfo, .inl (V.2.2.1, 2, .inl fo))] := hw_19.symm
              clear hw_19; subst hw_19x
              refine g_if_eq X 119 dX11_layRight_112 (by decide) (fun c112_22 => absurd c112_22 (by decide)) (fun c112_22 => ?_)
              refine g_iconst X (0) dX11_layRight_115 (by decide) ?_
              refine g_goto X 121 dX11_layRight_116 (by decide) ?_
              refine g_istore_n X (L' := [some (.ref mm), some (.int x), some (.int (nI b)), some (.int 0)]) dX11_layRight_121 (by decide) rfl rfl ?_
              have loop122_23 : ∀ (d122 c : Nat), c + d122 = 70 → ∀ (se2 : Nat → Int32) (h3 : fst1 (m1F k day n x (tLe k day b w)) c = none), G V Z 4 (0, 0) [(mm, .inr (11, [.int le_, .ref mtx, .int po_, .ref mnu, .int fa_, .int rcl_, .int rle_, .ref mrc, .ref mrw, .ref mrl, .int (nI n), .ref mki, .ref mwa, .int ls_, .ref mle, .ref mno, .ref mtr, .ref mse, .ref mba, .int ba_, .ref mim, .int km_, .int si_, .ref msi, .ref mfo, .int 0, .ref mor, .ref mbo, .ref mma, .ref mbm, .ref mso])), (mki, .inl (V.2.2.1, 7, .inl k)), (mno, .inl (V.2.2.1, 15, .inl (stF day w g))), (mtr, .inl (V.2.2.1, 15, .inl (stF day (tLe k day b w) g))), (mse, .inl (V.2.2.1, 15, .inl se2)), (mfo, .inl (V.2.2.1, 2, .inl fo))] 122 [some (.ref mm), some (.int x), some (.int (nI b)), some (.int (nI c))] [] := by
                intro d122
                induction d122 with
                | zero =>
                  intro c hc se2 h3
                  refine g_iload_n X dX11_layRight_122 rfl ?_
                  refine g_bipush X (70) dX11_layRight_123 (by decide) ?_
                  refine g_icmp_ge X 191 dX11_layRight_125 (by decide) (fun c125_24 => ?_) (fun c125_24 => absurd (tge (a := c) (b := 70) (by omega) (by omega) (by omega)) c125_24)
                  refine g_iinc X (v := nI (b + 1)) (L' := [some (.ref mm), some (.int x), some (.int (nI (b + 1))), some (.int (nI c))]) dX11_layRight_191 rfl (nI_addk (by decide)) (by decide) rfl rfl ?_
                  refine g_goto X 84 dX11_layRight_194 (by decide) ?_
                  refine g_sub (L' := [some (.ref mm), some (.int x), some (.int (nI (b + 1))), none]) ⟨rfl, ⟨rfl, ⟨rfl, trivial⟩⟩⟩ ?_
                  exact ih84 (b + 1) (by omega) (stF day (tLe k day b w) g) se2 (fst1_n h2 (by rw [m2F, if_pos hte109, show fst1 (m1F k day n x (tLe k day b w)) 70 = none from (by have e : c = 70 := (by omega); subst e; exact h3)]))
                | succ d122 ih122 =>
                  intro c hc se2 h3
                  refine g_iload_n X dX11_layRight_122 rfl ?_
                  refine g_bipush X (70) dX11_layRight_123 (by decide) ?_
                  refine g_icmp_ge X 191 dX11_layRight_125 (by decide) (fun c125_25 => absurd c125_25 (fge (a := c) (b := 70) (by omega) (by omega) (by omega))) (fun c125_25 => ?_)
                  refine g_aload_n X dX11_layRight_128 rfl ?_
                  refine g_get X uwX11 0 rfl rfl 16 (by decide) kl_X11_37 rfl rfl gwX11 dX11_layRight_129 ?_
                  refine g_iconst X (0) dX11_layRight_132 (by decide) ?_
                  refine g_aload_n X dX11_layRight_133 rfl ?_
                  refine g_get X uwX11 0 rfl rfl 17 (by decide) kl_X11_40 rfl rfl gwX11 dX11_layRight_134 ?_
                  refine g_iconst X (0) dX11_layRight_137 (by decide) ?_
                  refine g_callSv X (c_X11_copy V mtr 15 (stF day (tLe k day b w) g) mse 15 se2 0 0 (by omega) (by omega) (by omega) (by omega)) mo_X11_copy kl_X11_165 [3, 4] [0, 0, 0, 1, 2, 0] rfl (by decide +kernel) rfl rfl (fun _ => Nat.le_of_ble_eq_true rfl) (As := [.ref mtr, .int 0, .ref mse, .int 0]) (st := []) (cs' := (0, 0)) rfl rfl rfl dX11_layRight_138 (fun u_26 hp_27 ws_29 hw_28 => ?_)
                  have hw_28x : ws_29 = [(mm, .inr (11, [.int le_, .ref mtx, .int po_, .ref mnu, .int fa_, .int rcl_, .int rle_, .ref mrc, .ref mrw, .ref mrl, .int (nI n), .ref mki, .ref mwa, .int ls_, .ref mle, .ref mno, .ref mtr, .ref mse, .ref mba, .int ba_, .ref mim, .int km_, .int si_, .ref msi, .ref mfo, .int 0, .ref mor, .ref mbo, .ref mma, .ref mbm, .ref mso])), (mki, .inl (V.2.2.1, 7, .inl k)), (mno, .inl (V.2.2.1, 15, .inl (stF day w g))), (mtr, .inl (V.2.2.1, 15, .inl (stF day (tLe k day b w) g))), (mse, .inl (V.2.2.1, 15, .inl (cpM 0 0 (stF day (tLe k day b w) g) se2))), (mfo, .inl (V.2.2.1, 2, .inl fo))] := hw_28.symm
                  clear hw_28; subst hw_28x
                  refine g_arr 4 (stF day (tLe k day b w) g) rfl cpM_0 (ws' := [(mm, .inr (11, [.int le_, .ref mtx, .int po_, .ref mnu, .int fa_, .int rcl_, .int rle_, .ref mrc, .ref mrw, .ref mrl, .int (nI n), .ref mki, .ref mwa, .int ls_, .ref mle, .ref mno, .ref mtr, .ref mse, .ref mba, .int ba_, .ref mim, .int km_, .int si_, .ref msi, .ref mfo, .int 0, .ref mor, .ref mbo, .ref mma, .ref mbm, .ref mso])), (mki, .inl (V.2.2.1, 7, .inl k)), (mno, .inl (V.2.2.1, 15, .inl (stF day w g))), (mtr, .inl (V.2.2.1, 15, .inl (stF day (tLe k day b w) g))), (mse, .inl (V.2.2.1, 15, .inl (stF day (tLe k day b w) g))), (mfo, .inl (V.2.2.1, 2, .inl fo))]) rfl ?_
                  refine g_aload_n X dX11_layRight_141 rfl ?_
                  refine g_aload_n X dX11_layRight_142 rfl ?_
                  refine g_get X uwX11 0 rfl rfl 17 (by decide) kl_X11_40 rfl rfl gwX11 dX11_layRight_143 ?_
                  refine g_iload_n X dX11_layRight_146 rfl ?_
                  by_cases hte147 : tOK k day n c
                  · refine g_callVi X (c_X11_teaches_yes V mm mtx mnu mrc mrw mrl mki mwa mle mno mtr mse mba mim msi mfo mor mbo mma mbm mso le_ po_ fa_ rcl_ rle_ n ls_ ba_ km_ si_ 0 k day (tLe k day b w) g mse c (by omega) (by omega) (Bd_learn hB) hte147) mo_X11_teaches kl_X11_182 [0, 1, 4] [1, 2, 0, 0, 3, 0] rfl (by decide +kernel) rfl rfl (fun _ => Nat.le_of_ble_eq_true rfl) 0 11 rfl rfl (As := [.ref mse, .int (nI c)]) (st := []) (cs' := (0, 0)) rfl rfl rfl rfl dX11_layRight_147 (fun r_35 u_31 hp_32 ws_34 hw_33 => ?_)
                    obtain rfl : r_35 = 1 := hp_32
                    have hw_33x : ws_34 = [(mm, .inr (11, [.int le_, .ref mtx, .int po_, .ref mnu, .int fa_, .int rcl_, .int rle_, .ref mrc, .ref mrw, .ref mrl, .int (nI n), .ref mki, .ref mwa, .int ls_, .ref mle, .ref mno, .ref mtr, .ref mse, .ref mba, .int ba_, .ref mim, .int km_, .int si_, .ref msi, .ref mfo, .int 0, .ref mor, .ref mbo, .ref mma, .ref mbm, .ref mso])), (mki, .inl (V.2.2.1, 7, .inl k)), (mno, .inl (V.2.2.1, 15, .inl (stF day w g))), (mtr, .inl (V.2.2.1, 15, .inl (stF day (tLe k day b w) g))), (mse, .inl (V.2.2.1, 15, .inl (stF day (tLe k day c (tLe k day b w)) g))), (mfo, .inl (V.2.2.1, 2, .inl fo))] := hw_33.symm
                    clear hw_33; subst hw_33x
                    refine g_if_eq X 185 dX11_layRight_150 (by decide) (fun c150_36 => absurd c150_36 (by decide)) (fun c150_36 => ?_)
                    refine g_aload_n X dX11_layRight_153 rfl ?_
                    refine g_aload_n X dX11_layRight_154 rfl ?_
                    refine g_get X uwX11 0 rfl rfl 17 (by decide) kl_X11_40 rfl rfl gwX11 dX11_layRight_155 ?_
                    refine g_iload_n X dX11_layRight_158 rfl ?_
                    refine g_callVi X (c_X11_areRight V mm mtx mnu mrc mrw mrl mki mwa mle mno mtr mse mba mim msi mfo mor mbo mma mbm mso le_ po_ fa_ rcl_ rle_ n ls_ ba_ km_ si_ 0 day (tLe k day c (tLe k day b w)) g mse x (by omega)) mo_X11_areRight kl_X11_179 [0, 4] [1, 0, 0, 0, 2, 0] rfl (by decide +kernel) rfl rfl (fun _ => Nat.le_of_ble_eq_true rfl) 0 11 rfl rfl (As := [.ref mse, .int x]) (st := []) (cs' := (0, 0)) rfl rfl rfl rfl dX11_layRight_159 (fun r_41 u_37 hp_38 ws_40 hw_39 => ?_)
                    obtain rfl : r_41 = wiF n x (tLe k day c (tLe k day b w)) := hp_38
                    have hw_39x : ws_40 = [(mm, .inr (11, [.int le_, .ref mtx, .int po_, .ref mnu, .int fa_, .int rcl_, .int rle_, .ref mrc, .ref mrw, .ref mrl, .int (nI n), .ref mki, .ref mwa, .int ls_, .ref mle, .ref mno, .ref mtr, .ref mse, .ref mba, .int ba_, .ref mim, .int km_, .int si_, .ref msi, .ref mfo, .int 0, .ref mor, .ref mbo, .ref mma, .ref mbm, .ref mso])), (mki, .inl (V.2.2.1, 7, .inl k)), (mno, .inl (V.2.2.1, 15, .inl (stF day w g))), (mtr, .inl (V.2.2.1, 15, .inl (stF day (tLe k day b w) g))), (mse, .inl (V.2.2.1, 15, .inl (stF day (tLe k day c (tLe k day b w)) g))), (mfo, .inl (V.2.2.1, 2, .inl fo))] := hw_39.symm
                    clear hw_39; subst hw_39x
                    refine g_if_eq X 185 dX11_layRight_162 (by decide) (fun c162_42 => ?_) (fun c162_42 => ?_)
                    · refine g_iinc X (v := nI (c + 1)) (L' := [some (.ref mm), some (.int x), some (.int (nI b)), some (.int (nI (c + 1)))]) dX11_layRight_185 rfl (nI_addk (by decide)) (by decide) rfl rfl ?_
                      refine g_goto X 122 dX11_layRight_188 (by decide) ?_
                      exact ih122 (c + 1) (by omega) (stF day (tLe k day c (tLe k day b w)) g) (fst1_n h3 (by rw [m1F, if_pos hte147, if_pos c162_42]))
                    · have s3_ : fst1 (m1F k day n x (tLe k day b w)) 70 = some c := fst1_at h3 (by rw [m1F, if_pos hte147, if_neg c162_42]) (by omega)
                      have s2_ : fst1 (m2F k day n x w) 70 = some (b, c) := fst1_at h2 (by rw [m2F, if_pos hte109, s3_]) (by omega)
                      refine g_aload_n X dX11_layRight_165 rfl ?_
                      refine g_iconst X (2) dX11_layRight_166 (by decide) ?_
                      refine g_put X uwX11 tyX11 tyX11_ok nmX11 0 rfl rfl 25 (by decide) kl_X11_176 rfl rfl rfl rfl (Nat.le_of_ble_eq_true rfl) gwX11 (ws' := [(mm, .inr (11, [.int le_, .ref mtx, .int po_, .ref mnu, .int fa_, .int rcl_, .int rle_, .ref mrc, .ref mrw, .ref mrl, .int (nI n), .ref mki, .ref mwa, .int ls_, .ref mle, .ref mno, .ref mtr, .ref mse, .ref mba, .int ba_, .ref mim, .int km_, .int si_, .ref msi, .ref mfo, .int 2, .ref mor, .ref mbo, .ref mma, .ref mbm, .ref mso])), (mki, .inl (V.2.2.1, 7, .inl k)), (mno, .inl (V.2.2.1, 15, .inl (stF day w g))), (mtr, .inl (V.2.2.1, 15, .inl (stF day (tLe k day b w) g))), (mse, .inl (V.2.2.1, 15, .inl (stF day (tLe k day c (tLe k day b w)) g))), (mfo, .inl (V.2.2.1, 2, .inl fo))]) rfl dX11_layRight_167 ?_
                      refine g_aload_n X dX11_layRight_170 rfl ?_
                      refine g_get X uwX11 0 rfl rfl 24 (by decide) kl_X11_52 rfl rfl gwX11 dX11_layRight_171 ?_
                      refine g_iconst X (0) dX11_layRight_174 (by decide) ?_
                      refine g_iload_n X dX11_layRight_175 rfl ?_
                      refine g_iast' X 5 rfl (i := 0) rfl (by omega) (by omega) (ws' := [(mm, .inr (11, [.int le_, .ref mtx, .int po_, .ref mnu, .int fa_, .int rcl_, .int rle_, .ref mrc, .ref mrw, .ref mrl, .int (nI n), .ref mki, .ref mwa, .int ls_, .ref mle, .ref mno, .ref mtr, .ref mse, .ref mba, .int ba_, .ref mim, .int km_, .int si_, .ref msi, .ref mfo, .int 2, .ref mor, .ref mbo, .ref mma, .ref mbm, .ref mso])), (mki, .inl (V.2.2.1, 7, .inl k)), (mno, .inl (V.2.2.1, 15, .inl (stF day w g))), (mtr, .inl (V.2.2.1, 15, .inl (stF day (tLe k day b w) g))), (mse, .inl (V.2.2.1, 15, .inl (stF day (tLe k day c (tLe k day b w)) g))), (mfo, .inl (V.2.2.1, 2, .inl (upd fo 0 (nI b))))]) rfl dX11_layRight_176 ?_
                      refine g_aload_n X dX11_layRight_177 rfl ?_
                      refine g_get X uwX11 0 rfl rfl 24 (by decide) kl_X11_52 rfl rfl gwX11 dX11_layRight_178 ?_
                      refine g_iconst X (1) dX11_layRight_181 (by decide) ?_
                      refine g_iload_n X dX11_layRight_182 rfl ?_
                      refine g_iast' X 5 rfl (i := 1) rfl (by omega) (by omega) (ws' := [(mm, .inr (11, [.int le_, .ref mtx, .int po_, .ref mnu, .int fa_, .int rcl_, .int rle_, .ref mrc, .ref mrw, .ref mrl, .int (nI n), .ref mki, .ref mwa, .int ls_, .ref mle, .ref mno, .ref mtr, .ref mse, .ref mba, .int ba_, .ref mim, .int km_, .int si_, .ref msi, .ref mfo, .int 2, .ref mor, .ref mbo, .ref mma, .ref mbm, .ref mso])), (mki, .inl (V.2.2.1, 7, .inl k)), (mno, .inl (V.2.2.1, 15, .inl (stF day w g))), (mtr, .inl (V.2.2.1, 15, .inl (stF day (tLe k day b w) g))), (mse, .inl (V.2.2.1, 15, .inl (stF day (tLe k day c (tLe k day b w)) g))), (mfo, .inl (V.2.2.1, 2, .inl (upd (upd fo 0 (nI b)) 1 (nI c))))]) rfl dX11_layRight_183 ?_
                      exact g_vret X E dX11_layRight_184 ⟨2, upd (upd fo 0 (nI b)) 1 (nI c), stF day (tLe k day b w) g, stF day (tLe k day c (tLe k day b w)) g⟩ ⟨(by rw [cure_2 hn w0_ h70 s2_]), (fun _ => by rw [cure_2 hn w0_ h70 s2_]; rfl), (fun _ => by rw [cure_2 hn w0_ h70 s2_]; rfl), (Or.inr (Or.inr (Or.inl rfl)))⟩ rfl
                  · refine g_callVi X (c_X11_teaches_no V mm mtx mnu mrc mrw mrl mki mwa mle mno mtr mse mba mim msi mfo mor mbo mma mbm mso le_ po_ fa_ rcl_ rle_ n ls_ ba_ km_ si_ 0 k day (tLe k day b w) g mse c (by omega) (by omega) hte147) mo_X11_teaches kl_X11_182 [0, 1, 4] [1, 2, 0, 0, 3, 0] rfl (by decide +kernel) rfl rfl (fun _ => Nat.le_of_ble_eq_true rfl) 0 11 rfl rfl (As := [.ref mse, .int (nI c)]) (st := []) (cs' := (0, 0)) rfl rfl rfl rfl dX11_layRight_147 (fun r_47 u_43 hp_44 ws_46 hw_45 => ?_)
                    obtain rfl : r_47 = 0 := hp_44
                    have hw_45x : ws_46 = [(mm, .inr (11, [.int le_, .ref mtx, .int po_, .ref mnu, .int fa_, .int rcl_, .int rle_, .ref mrc, .ref mrw, .ref mrl, .int (nI n), .ref mki, .ref mwa, .int ls_, .ref mle, .ref mno, .ref mtr, .ref mse, .ref mba, .int ba_, .ref mim, .int km_, .int si_, .ref msi, .ref mfo, .int 0, .ref mor, .ref mbo, .ref mma, .ref mbm, .ref mso])), (mki, .inl (V.2.2.1, 7, .inl k)), (mno, .inl (V.2.2.1, 15, .inl (stF day w g))), (mtr, .inl (V.2.2.1, 15, .inl (stF day (tLe k day b w) g))), (mse, .inl (V.2.2.1, 15, .inl (stF day (tLe k day b w) g))), (mfo, .inl (V.2.2.1, 2, .inl fo))] := hw_45.symm
                    clear hw_45; subst hw_45x
                    refine g_if_eq X 185 dX11_layRight_150 (by decide) (fun c150_48 => ?_) (fun c150_48 => absurd (by decide) c150_48)
                    refine g_iinc X (v := nI (c + 1)) (L' := [some (.ref mm), some (.int x), some (.int (nI b)), some (.int (nI (c + 1)))]) dX11_layRight_185 rfl (nI_addk (by decide)) (by decide) rfl rfl ?_
                    refine g_goto X 122 dX11_layRight_188 (by decide) ?_
                    exact ih122 (c + 1) (by omega) (stF day (tLe k day b w) g) (fst1_n h3 (by rw [m1F, if_neg hte147]))
              exact loop122_23 70 0 (by omega) se1 rfl
            · refine g_callVi X (c_X11_teaches_no V mm mtx mnu mrc mrw mrl mki mwa mle mno mtr mse mba mim msi mfo mor mbo mma mbm mso le_ po_ fa_ rcl_ rle_ n ls_ ba_ km_ si_ 0 k day w g mtr b (by omega) (by omega) hte109) mo_X11_teaches kl_X11_182 [0, 1, 3] [1, 2, 0, 3, 0, 0] rfl (by decide +kernel) rfl rfl (fun _ => Nat.le_of_ble_eq_true rfl) 0 11 rfl rfl (As := [.ref mtr, .int (nI b)]) (st := []) (cs' := (0, 0)) rfl rfl rfl rfl dX11_layRight_109 (fun r_53 u_49 hp_50 ws_52 hw_51 => ?_)
              obtain rfl : r_53 = 0 := hp_50
              have hw_51x : ws_52 = [(mm, .inr (11, [.int le_, .ref mtx, .int po_, .ref mnu, .int fa_, .int rcl_, .int rle_, .ref mrc, .ref mrw, .ref mrl, .int (nI n), .ref mki, .ref mwa, .int ls_, .ref mle, .ref mno, .ref mtr, .ref mse, .ref mba, .int ba_, .ref mim, .int km_, .int si_, .ref msi, .ref mfo, .int 0, .ref mor, .ref mbo, .ref mma, .ref mbm, .ref mso])), (mki, .inl (V.2.2.1, 7, .inl k)), (mno, .inl (V.2.2.1, 15, .inl (stF day w g))), (mtr, .inl (V.2.2.1, 15, .inl (stF day w g))), (mse, .inl (V.2.2.1, 15, .inl se1)), (mfo, .inl (V.2.2.1, 2, .inl fo))] := hw_51.symm
              clear hw_51; subst hw_51x
              refine g_if_eq X 119 dX11_layRight_112 (by decide) (fun c112_54 => ?_) (fun c112_54 => absurd (by decide) c112_54)
              refine g_bipush X (70) dX11_layRight_119 (by decide) ?_
              refine g_istore_n X (L' := [some (.ref mm), some (.int x), some (.int (nI b)), some (.int 70)]) dX11_layRight_121 (by decide) rfl rfl ?_
              refine g_iload_n X dX11_layRight_122 rfl ?_
              refine g_bipush X (70) dX11_layRight_123 (by decide) ?_
              refine g_icmp_ge X 191 dX11_layRight_125 (by decide) (fun c125_55 => ?_) (fun c125_55 => absurd (tge (a := 70) (b := 70) (by omega) (by omega) (by omega)) c125_55)
              refine g_iinc X (v := nI (b + 1)) (L' := [some (.ref mm), some (.int x), some (.int (nI (b + 1))), some (.int 70)]) dX11_layRight_191 rfl (nI_addk (by decide)) (by decide) rfl rfl ?_
              refine g_goto X 84 dX11_layRight_194 (by decide) ?_
              refine g_sub (L' := [some (.ref mm), some (.int x), some (.int (nI (b + 1))), none]) ⟨rfl, ⟨rfl, ⟨rfl, trivial⟩⟩⟩ ?_
              exact ih84 (b + 1) (by omega) (stF day w g) se1 (fst1_n h2 (by rw [m2F, if_neg hte109]))
        exact loop84_9 70 0 (by omega) tr1 se rfl
      | succ d20 ih20 =>
        intro a ha tr1 h1
        refine g_iload_n X dX11_layRight_20 rfl ?_
        refine g_bipush X (70) dX11_layRight_21 (by decide) ?_
        refine g_icmp_ge X 82 dX11_layRight_23 (by decide) (fun c23_56 => absurd c23_56 (fge (a := a) (b := 70) (by omega) (by omega) (by omega))) (fun c23_56 => ?_)
        refine g_aload_n X dX11_layRight_26 rfl ?_
        refine g_get X uwX11 0 rfl rfl 15 (by decide) kl_X11_34 rfl rfl gwX11 dX11_layRight_27 ?_
        refine g_iconst X (0) dX11_layRight_30 (by decide) ?_
        refine g_aload_n X dX11_layRight_31 rfl ?_
        refine g_get X uwX11 0 rfl rfl 16 (by decide) kl_X11_37 rfl rfl gwX11 dX11_layRight_32 ?_
        refine g_iconst X (0) dX11_layRight_35 (by decide) ?_
        refine g_callSv X (c_X11_copy V mno 15 (stF day w g) mtr 15 tr1 0 0 (by omega) (by omega) (by omega) (by omega)) mo_X11_copy kl_X11_165 [2, 3] [0, 0, 1, 2, 0, 0] rfl (by decide +kernel) rfl rfl (fun _ => Nat.le_of_ble_eq_true rfl) (As := [.ref mno, .int 0, .ref mtr, .int 0]) (st := []) (cs' := (0, 0)) rfl rfl rfl dX11_layRight_36 (fun u_57 hp_58 ws_60 hw_59 => ?_)
        have hw_59x : ws_60 = [(mm, .inr (11, [.int le_, .ref mtx, .int po_, .ref mnu, .int fa_, .int rcl_, .int rle_, .ref mrc, .ref mrw, .ref mrl, .int (nI n), .ref mki, .ref mwa, .int ls_, .ref mle, .ref mno, .ref mtr, .ref mse, .ref mba, .int ba_, .ref mim, .int km_, .int si_, .ref msi, .ref mfo, .int 0, .ref mor, .ref mbo, .ref mma, .ref mbm, .ref mso])), (mki, .inl (V.2.2.1, 7, .inl k)), (mno, .inl (V.2.2.1, 15, .inl (stF day w g))), (mtr, .inl (V.2.2.1, 15, .inl (cpM 0 0 (stF day w g) tr1))), (mse, .inl (V.2.2.1, 15, .inl se)), (mfo, .inl (V.2.2.1, 2, .inl fo))] := hw_59.symm
        clear hw_59; subst hw_59x
        refine g_arr 3 (stF day w g) rfl cpM_0 (ws' := [(mm, .inr (11, [.int le_, .ref mtx, .int po_, .ref mnu, .int fa_, .int rcl_, .int rle_, .ref mrc, .ref mrw, .ref mrl, .int (nI n), .ref mki, .ref mwa, .int ls_, .ref mle, .ref mno, .ref mtr, .ref mse, .ref mba, .int ba_, .ref mim, .int km_, .int si_, .ref msi, .ref mfo, .int 0, .ref mor, .ref mbo, .ref mma, .ref mbm, .ref mso])), (mki, .inl (V.2.2.1, 7, .inl k)), (mno, .inl (V.2.2.1, 15, .inl (stF day w g))), (mtr, .inl (V.2.2.1, 15, .inl (stF day w g))), (mse, .inl (V.2.2.1, 15, .inl se)), (mfo, .inl (V.2.2.1, 2, .inl fo))]) rfl ?_
        refine g_aload_n X dX11_layRight_39 rfl ?_
        refine g_aload_n X dX11_layRight_40 rfl ?_
        refine g_get X uwX11 0 rfl rfl 16 (by decide) kl_X11_37 rfl rfl gwX11 dX11_layRight_41 ?_
        refine g_iload_n X dX11_layRight_44 rfl ?_
        by_cases hte45 : tOK k day n a
        · refine g_callVi X (c_X11_teaches_yes V mm mtx mnu mrc mrw mrl mki mwa mle mno mtr mse mba mim msi mfo mor mbo mma mbm mso le_ po_ fa_ rcl_ rle_ n ls_ ba_ km_ si_ 0 k day w g mtr a (by omega) (by omega) (by omega) hte45) mo_X11_teaches kl_X11_182 [0, 1, 3] [1, 2, 0, 3, 0, 0] rfl (by decide +kernel) rfl rfl (fun _ => Nat.le_of_ble_eq_true rfl) 0 11 rfl rfl (As := [.ref mtr, .int (nI a)]) (st := []) (cs' := (0, 0)) rfl rfl rfl rfl dX11_layRight_45 (fun r_66 u_62 hp_63 ws_65 hw_64 => ?_)
          obtain rfl : r_66 = 1 := hp_63
          have hw_64x : ws_65 = [(mm, .inr (11, [.int le_, .ref mtx, .int po_, .ref mnu, .int fa_, .int rcl_, .int rle_, .ref mrc, .ref mrw, .ref mrl, .int (nI n), .ref mki, .ref mwa, .int ls_, .ref mle, .ref mno, .ref mtr, .ref mse, .ref mba, .int ba_, .ref mim, .int km_, .int si_, .ref msi, .ref mfo, .int 0, .ref mor, .ref mbo, .ref mma, .ref mbm, .ref mso])), (mki, .inl (V.2.2.1, 7, .inl k)), (mno, .inl (V.2.2.1, 15, .inl (stF day w g))), (mtr, .inl (V.2.2.1, 15, .inl (stF day (tLe k day a w) g))), (mse, .inl (V.2.2.1, 15, .inl se)), (mfo, .inl (V.2.2.1, 2, .inl fo))] := hw_64.symm
          clear hw_64; subst hw_64x
          refine g_if_eq X 76 dX11_layRight_48 (by decide) (fun c48_67 => absurd c48_67 (by decide)) (fun c48_67 => ?_)
          refine g_aload_n X dX11_layRight_51 rfl ?_
          refine g_aload_n X dX11_layRight_52 rfl ?_
          refine g_get X uwX11 0 rfl rfl 16 (by decide) kl_X11_37 rfl rfl gwX11 dX11_layRight_53 ?_
          refine g_iload_n X dX11_layRight_56 rfl ?_
          refine g_callVi X (c_X11_areRight V mm mtx mnu mrc mrw mrl mki mwa mle mno mtr mse mba mim msi mfo mor mbo mma mbm mso le_ po_ fa_ rcl_ rle_ n ls_ ba_ km_ si_ 0 day (tLe k day a w) g mtr x (by omega)) mo_X11_areRight kl_X11_179 [0, 3] [1, 0, 0, 2, 0, 0] rfl (by decide +kernel) rfl rfl (fun _ => Nat.le_of_ble_eq_true rfl) 0 11 rfl rfl (As := [.ref mtr, .int x]) (st := []) (cs' := (0, 0)) rfl rfl rfl rfl dX11_layRight_57 (fun r_72 u_68 hp_69 ws_71 hw_70 => ?_)
          obtain rfl : r_72 = wiF n x (tLe k day a w) := hp_69
          have hw_70x : ws_71 = [(mm, .inr (11, [.int le_, .ref mtx, .int po_, .ref mnu, .int fa_, .int rcl_, .int rle_, .ref mrc, .ref mrw, .ref mrl, .int (nI n), .ref mki, .ref mwa, .int ls_, .ref mle, .ref mno, .ref mtr, .ref mse, .ref mba, .int ba_, .ref mim, .int km_, .int si_, .ref msi, .ref mfo, .int 0, .ref mor, .ref mbo, .ref mma, .ref mbm, .ref mso])), (mki, .inl (V.2.2.1, 7, .inl k)), (mno, .inl (V.2.2.1, 15, .inl (stF day w g))), (mtr, .inl (V.2.2.1, 15, .inl (stF day (tLe k day a w) g))), (mse, .inl (V.2.2.1, 15, .inl se)), (mfo, .inl (V.2.2.1, 2, .inl fo))] := hw_70.symm
          clear hw_70; subst hw_70x
          refine g_if_eq X 76 dX11_layRight_60 (by decide) (fun c60_73 => ?_) (fun c60_73 => ?_)
          · refine g_iinc X (v := nI (a + 1)) (L' := [some (.ref mm), some (.int x), some (.int (nI (a + 1))), none]) dX11_layRight_76 rfl (nI_addk (by decide)) (by decide) rfl rfl ?_
            refine g_goto X 20 dX11_layRight_79 (by decide) ?_
            exact ih20 (a + 1) (by omega) (stF day (tLe k day a w) g) (fst1_n h1 (by rw [m1F, if_pos hte45, if_pos c60_73]))
          · have s1_ : fst1 (m1F k day n x w) 70 = some a := fst1_at h1 (by rw [m1F, if_pos hte45, if_neg c60_73]) (by omega)
            refine g_aload_n X dX11_layRight_63 rfl ?_
            refine g_iconst X (1) dX11_layRight_64 (by decide) ?_
            refine g_put X uwX11 tyX11 tyX11_ok nmX11 0 rfl rfl 25 (by decide) kl_X11_176 rfl rfl rfl rfl (Nat.le_of_ble_eq_true rfl) gwX11 (ws' := [(mm, .inr (11, [.int le_, .ref mtx, .int po_, .ref mnu, .int fa_, .int rcl_, .int rle_, .ref mrc, .ref mrw, .ref mrl, .int (nI n), .ref mki, .ref mwa, .int ls_, .ref mle, .ref mno, .ref mtr, .ref mse, .ref mba, .int ba_, .ref mim, .int km_, .int si_, .ref msi, .ref mfo, .int 1, .ref mor, .ref mbo, .ref mma, .ref mbm, .ref mso])), (mki, .inl (V.2.2.1, 7, .inl k)), (mno, .inl (V.2.2.1, 15, .inl (stF day w g))), (mtr, .inl (V.2.2.1, 15, .inl (stF day (tLe k day a w) g))), (mse, .inl (V.2.2.1, 15, .inl se)), (mfo, .inl (V.2.2.1, 2, .inl fo))]) rfl dX11_layRight_65 ?_
            refine g_aload_n X dX11_layRight_68 rfl ?_
            refine g_get X uwX11 0 rfl rfl 24 (by decide) kl_X11_52 rfl rfl gwX11 dX11_layRight_69 ?_
            refine g_iconst X (0) dX11_layRight_72 (by decide) ?_
            refine g_iload_n X dX11_layRight_73 rfl ?_
            refine g_iast' X 5 rfl (i := 0) rfl (by omega) (by omega) (ws' := [(mm, .inr (11, [.int le_, .ref mtx, .int po_, .ref mnu, .int fa_, .int rcl_, .int rle_, .ref mrc, .ref mrw, .ref mrl, .int (nI n), .ref mki, .ref mwa, .int ls_, .ref mle, .ref mno, .ref mtr, .ref mse, .ref mba, .int ba_, .ref mim, .int km_, .int si_, .ref msi, .ref mfo, .int 1, .ref mor, .ref mbo, .ref mma, .ref mbm, .ref mso])), (mki, .inl (V.2.2.1, 7, .inl k)), (mno, .inl (V.2.2.1, 15, .inl (stF day w g))), (mtr, .inl (V.2.2.1, 15, .inl (stF day (tLe k day a w) g))), (mse, .inl (V.2.2.1, 15, .inl se)), (mfo, .inl (V.2.2.1, 2, .inl (upd fo 0 (nI a))))]) rfl dX11_layRight_74 ?_
            exact g_vret X E dX11_layRight_75 ⟨1, upd fo 0 (nI a), stF day (tLe k day a w) g, se⟩ ⟨(by rw [cure_1 hn w0_ s1_]), (fun _ => by rw [cure_1 hn w0_ s1_]; rfl), (fun z => absurd z (show ¬ ((2 : Int32) = 1) by decide)), (Or.inr (Or.inl rfl))⟩ rfl
        · refine g_callVi X (c_X11_teaches_no V mm mtx mnu mrc mrw mrl mki mwa mle mno mtr mse mba mim msi mfo mor mbo mma mbm mso le_ po_ fa_ rcl_ rle_ n ls_ ba_ km_ si_ 0 k day w g mtr a (by omega) (by omega) hte45) mo_X11_teaches kl_X11_182 [0, 1, 3] [1, 2, 0, 3, 0, 0] rfl (by decide +kernel) rfl rfl (fun _ => Nat.le_of_ble_eq_true rfl) 0 11 rfl rfl (As := [.ref mtr, .int (nI a)]) (st := []) (cs' := (0, 0)) rfl rfl rfl rfl dX11_layRight_45 (fun r_78 u_74 hp_75 ws_77 hw_76 => ?_)
          obtain rfl : r_78 = 0 := hp_75
          have hw_76x : ws_77 = [(mm, .inr (11, [.int le_, .ref mtx, .int po_, .ref mnu, .int fa_, .int rcl_, .int rle_, .ref mrc, .ref mrw, .ref mrl, .int (nI n), .ref mki, .ref mwa, .int ls_, .ref mle, .ref mno, .ref mtr, .ref mse, .ref mba, .int ba_, .ref mim, .int km_, .int si_, .ref msi, .ref mfo, .int 0, .ref mor, .ref mbo, .ref mma, .ref mbm, .ref mso])), (mki, .inl (V.2.2.1, 7, .inl k)), (mno, .inl (V.2.2.1, 15, .inl (stF day w g))), (mtr, .inl (V.2.2.1, 15, .inl (stF day w g))), (mse, .inl (V.2.2.1, 15, .inl se)), (mfo, .inl (V.2.2.1, 2, .inl fo))] := hw_76.symm
          clear hw_76; subst hw_76x
          refine g_if_eq X 76 dX11_layRight_48 (by decide) (fun c48_79 => ?_) (fun c48_79 => absurd (by decide) c48_79)
          refine g_iinc X (v := nI (a + 1)) (L' := [some (.ref mm), some (.int x), some (.int (nI (a + 1))), none]) dX11_layRight_76 rfl (nI_addk (by decide)) (by decide) rfl rfl ?_
          refine g_goto X 20 dX11_layRight_79 (by decide) ?_
          exact ih20 (a + 1) (by omega) (stF day w g) (fst1_n h1 (by rw [m1F, if_neg hte45]))
    exact loop20_7 70 0 (by omega) tr rfl
  · exact g_vret X E dX11_layRight_17 ⟨0, fo, tr, se⟩ ⟨(by rw [cure_0 c14_6]), (fun z => z.elim (fun h => absurd h (show ¬ ((1 : Int32) = 0) by decide)) (fun h => absurd h (show ¬ ((2 : Int32) = 0) by decide))), (fun z => absurd z (show ¬ ((2 : Int32) = 0) by decide)), (Or.inl rfl)⟩ rfl

set_option maxHeartbeats 4000000 in
set_option maxRecDepth 100000 in
theorem w_right_bad (V : gV) (mm : Nat) (mtx : Nat) (mnu : Nat) (mrc : Nat) (mrw : Nat) (mrl : Nat) (mki : Nat) (mwa : Nat) (mle : Nat) (mno : Nat) (mtr : Nat) (mse : Nat) (mba : Nat) (mim : Nat) (msi : Nat) (mfo : Nat) (mor : Nat) (mbo : Nat) (mma : Nat) (mbm : Nat) (mso : Nat) (le_ : Int32) (po_ : Int32) (fa_ : Int32) (rcl_ : Int32) (rle_ : Int32) (cl_ : Int32) (ls_ : Int32) (ba_ : Int32) (km_ : Int32) (si_ : Int32) (fm_ : Int32) (v : Int32) (kk : Int32) (hbad : ¬ (¬ v < 0 ∧ ¬ 100 < v ∧ ¬ kk < 0 ∧ kk ≤ 2)) : Ki V yX11_right cX11_right 3 .int ({ frames := 1, cells := 0, slots := 0, locals := 22 }) [.ref mm, .int v, .int kk] [(mm, .inr (11, [.int le_, .ref mtx, .int po_, .ref mnu, .int fa_, .int rcl_, .int rle_, .ref mrc, .ref mrw, .ref mrl, .int cl_, .ref mki, .ref mwa, .int ls_, .ref mle, .ref mno, .ref mtr, .ref mse, .ref mba, .int ba_, .ref mim, .int km_, .int si_, .ref msi, .ref mfo, .int fm_, .ref mor, .ref mbo, .ref mma, .ref mbm, .ref mso]))] (fun (r : Int32) (u : Unit) => r = -1) (fun u => [(mm, .inr (11, [.int le_, .ref mtx, .int po_, .ref mnu, .int fa_, .int rcl_, .int rle_, .ref mrc, .ref mrw, .ref mrl, .int cl_, .ref mki, .ref mwa, .int ls_, .ref mle, .ref mno, .ref mtr, .ref mse, .ref mba, .int ba_, .ref mim, .int km_, .int si_, .ref msi, .ref mfo, .int fm_, .ref mor, .ref mbo, .ref mma, .ref mbm, .ref mso]))]) := by
  refine Ki.of [some (.ref mm), some (.int v), some (.int kk)] (by decide) (Nat.le_of_ble_eq_true rfl) rfl rfl ?_
  intro Z X E
  have X : gX V Z RX11 cX11_right 3 ({ frames := 1, cells := 0, slots := 0, locals := 22 }) := X
  refine g_iload_n X dX11_right_0 rfl ?_
  refine g_iconst X (0) dX11_right_1 (by decide) ?_
  refine g_bipush X (100) dX11_right_2 (by decide) ?_
  refine g_callSi X (c_X11_in V v 0 100) mo_X11_in kl_X11_94 [] [0] rfl (by decide +kernel) rfl rfl (fun _ => Nat.le_of_ble_eq_true rfl) (As := [.int v, .int 0, .int 100]) (st := []) (cs' := (0, 0)) rfl rfl rfl dX11_right_4 (fun r_5 u_1 hp_2 ws_4 hw_3 => ?_)
  obtain rfl : r_5 = inF v 0 100 := hp_2
  have hw_3x : ws_4 = [(mm, .inr (11, [.int le_, .ref mtx, .int po_, .ref mnu, .int fa_, .int rcl_, .int rle_, .ref mrc, .ref mrw, .ref mrl, .int cl_, .ref mki, .ref mwa, .int ls_, .ref mle, .ref mno, .ref mtr, .ref mse, .ref mba, .int ba_, .ref mim, .int km_, .int si_, .ref msi, .ref mfo, .int fm_, .ref mor, .ref mbo, .ref mma, .ref mbm, .ref mso]))] := hw_3.symm
  clear hw_3; subst hw_3x
  refine g_if_eq X 19 dX11_right_7 (by decide) (fun c7_6 => ?_) (fun c7_6 => ?_)
  · refine g_iconst X (-1) dX11_right_19 (by decide) ?_
    exact g_iret X E dX11_right_20 () (-1) (by first | rfl | (simp [c7_6]; done)) rfl
  · refine g_iload_n X dX11_right_10 rfl ?_
    refine g_iconst X (0) dX11_right_11 (by decide) ?_
    refine g_iconst X (2) dX11_right_12 (by decide) ?_
    refine g_callSi X (c_X11_in V kk 0 2) mo_X11_in kl_X11_94 [] [0] rfl (by decide +kernel) rfl rfl (fun _ => Nat.le_of_ble_eq_true rfl) (As := [.int kk, .int 0, .int 2]) (st := []) (cs' := (0, 0)) rfl rfl rfl dX11_right_13 (fun r_11 u_7 hp_8 ws_10 hw_9 => ?_)
    obtain rfl : r_11 = inF kk 0 2 := hp_8
    have hw_9x : ws_10 = [(mm, .inr (11, [.int le_, .ref mtx, .int po_, .ref mnu, .int fa_, .int rcl_, .int rle_, .ref mrc, .ref mrw, .ref mrl, .int cl_, .ref mki, .ref mwa, .int ls_, .ref mle, .ref mno, .ref mtr, .ref mse, .ref mba, .int ba_, .ref mim, .int km_, .int si_, .ref msi, .ref mfo, .int fm_, .ref mor, .ref mbo, .ref mma, .ref mbm, .ref mso]))] := hw_9.symm
    clear hw_9; subst hw_9x
    refine g_if_ne X 21 dX11_right_16 (by decide) (fun c16_12 => ?_) (fun c16_12 => ?_)
    · exact absurd ⟨(inF_of c7_6).1, (inF_of c7_6).2, (inF_of c16_12).1, Int32.not_lt.mp (inF_of c16_12).2⟩ hbad
    · refine g_iconst X (-1) dX11_right_19 (by decide) ?_
      exact g_iret X E dX11_right_20 () (-1) (by first | rfl | (simp [c7_6, c16_12]; done)) rfl

set_option maxHeartbeats 4000000 in
set_option maxRecDepth 100000 in
theorem w_right_0 (V : gV) (mm : Nat) (mtx : Nat) (mnu : Nat) (mrc : Nat) (mrw : Nat) (mrl : Nat) (mki : Nat) (mwa : Nat) (mle : Nat) (mno : Nat) (mtr : Nat) (mse : Nat) (mba : Nat) (mim : Nat) (msi : Nat) (mfo : Nat) (mor : Nat) (mbo : Nat) (mma : Nat) (mbm : Nat) (mso : Nat) (le_ : Int32) (po_ : Int32) (fa_ : Int32) (rcl_ : Int32) (rle_ : Int32) (n : Nat) (ls_ : Int32) (ba_ : Int32) (km_ : Int32) (si_ : Int32) (fm_ : Int32) (k : Nat → Int32) (day : Int32) (w : Nat → Int32) (g : Nat → Int32) (fo : Nat → Int32) (tr : Nat → Int32) (se : Nat → Int32) (v : Int32) (hn : n ≤ 7) (hB : Bd n w) (h1 : ¬ v < 0) (h2 : ¬ 100 < v) : Ki V yX11_right cX11_right 3 .int ({ frames := 4, cells := 0, slots := 0, locals := 94 }) [.ref mm, .int v, .int 0] [(mm, .inr (11, [.int le_, .ref mtx, .int po_, .ref mnu, .int fa_, .int rcl_, .int rle_, .ref mrc, .ref mrw, .ref mrl, .int (nI n), .ref mki, .ref mwa, .int ls_, .ref mle, .ref mno, .ref mtr, .ref mse, .ref mba, .int ba_, .ref mim, .int km_, .int si_, .ref msi, .ref mfo, .int fm_, .ref mor, .ref mbo, .ref mma, .ref mbm, .ref mso])), (mki, .inl (V.2.2.1, 7, .inl k)), (mno, .inl (V.2.2.1, 15, .inl (stF day w g))), (mtr, .inl (V.2.2.1, 15, .inl tr)), (mse, .inl (V.2.2.1, 15, .inl se)), (mfo, .inl (V.2.2.1, 2, .inl fo))] (fun (r : Int32) (u : Int32 × (Nat → Int32) × (Nat → Int32) × (Nat → Int32)) => r = rgtF 0 (cureF k day n v w)) (fun u => [(mm, .inr (11, [.int le_, .ref mtx, .int po_, .ref mnu, .int fa_, .int rcl_, .int rle_, .ref mrc, .ref mrw, .ref mrl, .int (nI n), .ref mki, .ref mwa, .int ls_, .ref mle, .ref mno, .ref mtr, .ref mse, .ref mba, .int ba_, .ref mim, .int km_, .int si_, .ref msi, .ref mfo, .int u.1, .ref mor, .ref mbo, .ref mma, .ref mbm, .ref mso])), (mki, .inl (V.2.2.1, 7, .inl k)), (mno, .inl (V.2.2.1, 15, .inl (stF day w g))), (mtr, .inl (V.2.2.1, 15, .inl u.2.2.1)), (mse, .inl (V.2.2.1, 15, .inl u.2.2.2)), (mfo, .inl (V.2.2.1, 2, .inl u.2.1))]) := by
  refine Ki.of [some (.ref mm), some (.int v), some (.int 0)] (by decide) (Nat.le_of_ble_eq_true rfl) rfl rfl ?_
  intro Z X E
  have X : gX V Z RX11 cX11_right 3 ({ frames := 4, cells := 0, slots := 0, locals := 94 }) := X
  refine g_iload_n X dX11_right_0 rfl ?_
  refine g_iconst X (0) dX11_right_1 (by decide) ?_
  refine g_bipush X (100) dX11_right_2 (by decide) ?_
  refine g_callSi X (c_X11_in V v 0 100) mo_X11_in kl_X11_94 [] [0, 0, 0, 0, 0, 0] rfl (by decide +kernel) rfl rfl (fun _ => Nat.le_of_ble_eq_true rfl) (As := [.int v, .int 0, .int 100]) (st := []) (cs' := (0, 0)) rfl rfl rfl dX11_right_4 (fun r_5 u_1 hp_2 ws_4 hw_3 => ?_)
  obtain rfl : r_5 = inF v 0 100 := hp_2
  have hw_3x : ws_4 = [(mm, .inr (11, [.int le_, .ref mtx, .int po_, .ref mnu, .int fa_, .int rcl_, .int rle_, .ref mrc, .ref mrw, .ref mrl, .int (nI n), .ref mki, .ref mwa, .int ls_, .ref mle, .ref mno, .ref mtr, .ref mse, .ref mba, .int ba_, .ref mim, .int km_, .int si_, .ref msi, .ref mfo, .int fm_, .ref mor, .ref mbo, .ref mma, .ref mbm, .ref mso])), (mki, .inl (V.2.2.1, 7, .inl k)), (mno, .inl (V.2.2.1, 15, .inl (stF day w g))), (mtr, .inl (V.2.2.1, 15, .inl tr)), (mse, .inl (V.2.2.1, 15, .inl se)), (mfo, .inl (V.2.2.1, 2, .inl fo))] := hw_3.symm
  clear hw_3; subst hw_3x
  refine g_if_eq X 19 dX11_right_7 (by decide) (fun c7_6 => absurd c7_6 (by rw [inF_1 h1 h2]; decide)) (fun c7_6 => ?_)
  refine g_iload_n X dX11_right_10 rfl ?_
  refine g_iconst X (0) dX11_right_11 (by decide) ?_
  refine g_iconst X (2) dX11_right_12 (by decide) ?_
  refine g_callSi X (c_X11_in V 0 0 2) mo_X11_in kl_X11_94 [] [0, 0, 0, 0, 0, 0] rfl (by decide +kernel) rfl rfl (fun _ => Nat.le_of_ble_eq_true rfl) (As := [.int 0, .int 0, .int 2]) (st := []) (cs' := (0, 0)) rfl rfl rfl dX11_right_13 (fun r_11 u_7 hp_8 ws_10 hw_9 => ?_)
  obtain rfl : r_11 = inF 0 0 2 := hp_8
  have hw_9x : ws_10 = [(mm, .inr (11, [.int le_, .ref mtx, .int po_, .ref mnu, .int fa_, .int rcl_, .int rle_, .ref mrc, .ref mrw, .ref mrl, .int (nI n), .ref mki, .ref mwa, .int ls_, .ref mle, .ref mno, .ref mtr, .ref mse, .ref mba, .int ba_, .ref mim, .int km_, .int si_, .ref msi, .ref mfo, .int fm_, .ref mor, .ref mbo, .ref mma, .ref mbm, .ref mso])), (mki, .inl (V.2.2.1, 7, .inl k)), (mno, .inl (V.2.2.1, 15, .inl (stF day w g))), (mtr, .inl (V.2.2.1, 15, .inl tr)), (mse, .inl (V.2.2.1, 15, .inl se)), (mfo, .inl (V.2.2.1, 2, .inl fo))] := hw_9.symm
  clear hw_9; subst hw_9x
  refine g_if_ne X 21 dX11_right_16 (by decide) (fun c16_12 => ?_) (fun c16_12 => absurd c16_12 (by decide))
  refine g_aload_n X dX11_right_21 rfl ?_
  refine g_iload_n X dX11_right_22 rfl ?_
  refine g_callVv X (c_X11_layRight V mm mtx mnu mrc mrw mrl mki mwa mle mno mtr mse mba mim msi mfo mor mbo mma mbm mso le_ po_ fa_ rcl_ rle_ n ls_ ba_ km_ si_ fm_ k day w g fo tr se v (by omega) (by omega)) mo_X11_layRight kl_X11_185 [0, 1, 2, 3, 4, 5] [1, 2, 3, 4, 5, 6] rfl (by decide +kernel) rfl rfl (fun _ => Nat.le_of_ble_eq_true rfl) 0 11 rfl rfl (As := [.int v]) (st := []) (cs' := (0, 0)) rfl rfl rfl rfl dX11_right_23 (fun u_13 hp_14 ws_16 hw_15 => ?_)
  obtain ⟨nfm_18, nfo_19, ntr_20, nse_21⟩ := u_13
  obtain ⟨hf0_22, hf1_23, hf2_24, hf3_25⟩ : nfm_18 = (cureF k day n v w).1 ∧ (1 = nfm_18 ∨ 2 = nfm_18 → nfo_19 0 = (cureF k day n v w).2.1) ∧ (2 = nfm_18 → nfo_19 1 = (cureF k day n v w).2.2) ∧ (nfm_18 = 0 ∨ nfm_18 = 1 ∨ nfm_18 = 2 ∨ nfm_18 = -4) := hp_14
  have hw_15x : ws_16 = [(mm, .inr (11, [.int le_, .ref mtx, .int po_, .ref mnu, .int fa_, .int rcl_, .int rle_, .ref mrc, .ref mrw, .ref mrl, .int (nI n), .ref mki, .ref mwa, .int ls_, .ref mle, .ref mno, .ref mtr, .ref mse, .ref mba, .int ba_, .ref mim, .int km_, .int si_, .ref msi, .ref mfo, .int nfm_18, .ref mor, .ref mbo, .ref mma, .ref mbm, .ref mso])), (mki, .inl (V.2.2.1, 7, .inl k)), (mno, .inl (V.2.2.1, 15, .inl (stF day w g))), (mtr, .inl (V.2.2.1, 15, .inl ntr_20)), (mse, .inl (V.2.2.1, 15, .inl nse_21)), (mfo, .inl (V.2.2.1, 2, .inl nfo_19))] := hw_15.symm
  clear hw_15; subst hw_15x
  refine g_iload_n X dX11_right_26 rfl ?_
  refine g_if_ne X 37 dX11_right_27 (by decide) (fun c27_26 => absurd (by decide) c27_26) (fun c27_26 => ?_)
  refine g_aload_n X dX11_right_30 rfl ?_
  refine g_get X uwX11 0 rfl rfl 25 (by decide) kl_X11_176 rfl rfl gwX11 dX11_right_31 ?_
  refine g_goto X 58 dX11_right_34 (by decide) ?_
  exact g_iret X E dX11_right_58 ⟨nfm_18, nfo_19, ntr_20, nse_21⟩ nfm_18 (rgt_0 hf0_22 hf1_23 hf2_24 hf3_25) rfl

set_option maxHeartbeats 4000000 in
set_option maxRecDepth 100000 in
theorem w_right_1 (V : gV) (mm : Nat) (mtx : Nat) (mnu : Nat) (mrc : Nat) (mrw : Nat) (mrl : Nat) (mki : Nat) (mwa : Nat) (mle : Nat) (mno : Nat) (mtr : Nat) (mse : Nat) (mba : Nat) (mim : Nat) (msi : Nat) (mfo : Nat) (mor : Nat) (mbo : Nat) (mma : Nat) (mbm : Nat) (mso : Nat) (le_ : Int32) (po_ : Int32) (fa_ : Int32) (rcl_ : Int32) (rle_ : Int32) (n : Nat) (ls_ : Int32) (ba_ : Int32) (km_ : Int32) (si_ : Int32) (fm_ : Int32) (k : Nat → Int32) (day : Int32) (w : Nat → Int32) (g : Nat → Int32) (fo : Nat → Int32) (tr : Nat → Int32) (se : Nat → Int32) (v : Int32) (hn : n ≤ 7) (hB : Bd n w) (h1 : ¬ v < 0) (h2 : ¬ 100 < v) : Ki V yX11_right cX11_right 3 .int ({ frames := 4, cells := 0, slots := 0, locals := 94 }) [.ref mm, .int v, .int 1] [(mm, .inr (11, [.int le_, .ref mtx, .int po_, .ref mnu, .int fa_, .int rcl_, .int rle_, .ref mrc, .ref mrw, .ref mrl, .int (nI n), .ref mki, .ref mwa, .int ls_, .ref mle, .ref mno, .ref mtr, .ref mse, .ref mba, .int ba_, .ref mim, .int km_, .int si_, .ref msi, .ref mfo, .int fm_, .ref mor, .ref mbo, .ref mma, .ref mbm, .ref mso])), (mki, .inl (V.2.2.1, 7, .inl k)), (mno, .inl (V.2.2.1, 15, .inl (stF day w g))), (mtr, .inl (V.2.2.1, 15, .inl tr)), (mse, .inl (V.2.2.1, 15, .inl se)), (mfo, .inl (V.2.2.1, 2, .inl fo))] (fun (r : Int32) (u : Int32 × (Nat → Int32) × (Nat → Int32) × (Nat → Int32)) => r = rgtF 1 (cureF k day n v w)) (fun u => [(mm, .inr (11, [.int le_, .ref mtx, .int po_, .ref mnu, .int fa_, .int rcl_, .int rle_, .ref mrc, .ref mrw, .ref mrl, .int (nI n), .ref mki, .ref mwa, .int ls_, .ref mle, .ref mno, .ref mtr, .ref mse, .ref mba, .int ba_, .ref mim, .int km_, .int si_, .ref msi, .ref mfo, .int u.1, .ref mor, .ref mbo, .ref mma, .ref mbm, .ref mso])), (mki, .inl (V.2.2.1, 7, .inl k)), (mno, .inl (V.2.2.1, 15, .inl (stF day w g))), (mtr, .inl (V.2.2.1, 15, .inl u.2.2.1)), (mse, .inl (V.2.2.1, 15, .inl u.2.2.2)), (mfo, .inl (V.2.2.1, 2, .inl u.2.1))]) := by
  refine Ki.of [some (.ref mm), some (.int v), some (.int 1)] (by decide) (Nat.le_of_ble_eq_true rfl) rfl rfl ?_
  intro Z X E
  have X : gX V Z RX11 cX11_right 3 ({ frames := 4, cells := 0, slots := 0, locals := 94 }) := X
  refine g_iload_n X dX11_right_0 rfl ?_
  refine g_iconst X (0) dX11_right_1 (by decide) ?_
  refine g_bipush X (100) dX11_right_2 (by decide) ?_
  refine g_callSi X (c_X11_in V v 0 100) mo_X11_in kl_X11_94 [] [0, 0, 0, 0, 0, 0] rfl (by decide +kernel) rfl rfl (fun _ => Nat.le_of_ble_eq_true rfl) (As := [.int v, .int 0, .int 100]) (st := []) (cs' := (0, 0)) rfl rfl rfl dX11_right_4 (fun r_5 u_1 hp_2 ws_4 hw_3 => ?_)
  obtain rfl : r_5 = inF v 0 100 := hp_2
  have hw_3x : ws_4 = [(mm, .inr (11, [.int le_, .ref mtx, .int po_, .ref mnu, .int fa_, .int rcl_, .int rle_, .ref mrc, .ref mrw, .ref mrl, .int (nI n), .ref mki, .ref mwa, .int ls_, .ref mle, .ref mno, .ref mtr, .ref mse, .ref mba, .int ba_, .ref mim, .int km_, .int si_, .ref msi, .ref mfo, .int fm_, .ref mor, .ref mbo, .ref mma, .ref mbm, .ref mso])), (mki, .inl (V.2.2.1, 7, .inl k)), (mno, .inl (V.2.2.1, 15, .inl (stF day w g))), (mtr, .inl (V.2.2.1, 15, .inl tr)), (mse, .inl (V.2.2.1, 15, .inl se)), (mfo, .inl (V.2.2.1, 2, .inl fo))] := hw_3.symm
  clear hw_3; subst hw_3x
  refine g_if_eq X 19 dX11_right_7 (by decide) (fun c7_6 => absurd c7_6 (by rw [inF_1 h1 h2]; decide)) (fun c7_6 => ?_)
  refine g_iload_n X dX11_right_10 rfl ?_
  refine g_iconst X (0) dX11_right_11 (by decide) ?_
  refine g_iconst X (2) dX11_right_12 (by decide) ?_
  refine g_callSi X (c_X11_in V 1 0 2) mo_X11_in kl_X11_94 [] [0, 0, 0, 0, 0, 0] rfl (by decide +kernel) rfl rfl (fun _ => Nat.le_of_ble_eq_true rfl) (As := [.int 1, .int 0, .int 2]) (st := []) (cs' := (0, 0)) rfl rfl rfl dX11_right_13 (fun r_11 u_7 hp_8 ws_10 hw_9 => ?_)
  obtain rfl : r_11 = inF 1 0 2 := hp_8
  have hw_9x : ws_10 = [(mm, .inr (11, [.int le_, .ref mtx, .int po_, .ref mnu, .int fa_, .int rcl_, .int rle_, .ref mrc, .ref mrw, .ref mrl, .int (nI n), .ref mki, .ref mwa, .int ls_, .ref mle, .ref mno, .ref mtr, .ref mse, .ref mba, .int ba_, .ref mim, .int km_, .int si_, .ref msi, .ref mfo, .int fm_, .ref mor, .ref mbo, .ref mma, .ref mbm, .ref mso])), (mki, .inl (V.2.2.1, 7, .inl k)), (mno, .inl (V.2.2.1, 15, .inl (stF day w g))), (mtr, .inl (V.2.2.1, 15, .inl tr)), (mse, .inl (V.2.2.1, 15, .inl se)), (mfo, .inl (V.2.2.1, 2, .inl fo))] := hw_9.symm
  clear hw_9; subst hw_9x
  refine g_if_ne X 21 dX11_right_16 (by decide) (fun c16_12 => ?_) (fun c16_12 => absurd c16_12 (by decide))
  refine g_aload_n X dX11_right_21 rfl ?_
  refine g_iload_n X dX11_right_22 rfl ?_
  refine g_callVv X (c_X11_layRight V mm mtx mnu mrc mrw mrl mki mwa mle mno mtr mse mba mim msi mfo mor mbo mma mbm mso le_ po_ fa_ rcl_ rle_ n ls_ ba_ km_ si_ fm_ k day w g fo tr se v (by omega) (by omega)) mo_X11_layRight kl_X11_185 [0, 1, 2, 3, 4, 5] [1, 2, 3, 4, 5, 6] rfl (by decide +kernel) rfl rfl (fun _ => Nat.le_of_ble_eq_true rfl) 0 11 rfl rfl (As := [.int v]) (st := []) (cs' := (0, 0)) rfl rfl rfl rfl dX11_right_23 (fun u_13 hp_14 ws_16 hw_15 => ?_)
  obtain ⟨nfm_18, nfo_19, ntr_20, nse_21⟩ := u_13
  obtain ⟨hf0_22, hf1_23, hf2_24, hf3_25⟩ : nfm_18 = (cureF k day n v w).1 ∧ (1 = nfm_18 ∨ 2 = nfm_18 → nfo_19 0 = (cureF k day n v w).2.1) ∧ (2 = nfm_18 → nfo_19 1 = (cureF k day n v w).2.2) ∧ (nfm_18 = 0 ∨ nfm_18 = 1 ∨ nfm_18 = 2 ∨ nfm_18 = -4) := hp_14
  have hw_15x : ws_16 = [(mm, .inr (11, [.int le_, .ref mtx, .int po_, .ref mnu, .int fa_, .int rcl_, .int rle_, .ref mrc, .ref mrw, .ref mrl, .int (nI n), .ref mki, .ref mwa, .int ls_, .ref mle, .ref mno, .ref mtr, .ref mse, .ref mba, .int ba_, .ref mim, .int km_, .int si_, .ref msi, .ref mfo, .int nfm_18, .ref mor, .ref mbo, .ref mma, .ref mbm, .ref mso])), (mki, .inl (V.2.2.1, 7, .inl k)), (mno, .inl (V.2.2.1, 15, .inl (stF day w g))), (mtr, .inl (V.2.2.1, 15, .inl ntr_20)), (mse, .inl (V.2.2.1, 15, .inl nse_21)), (mfo, .inl (V.2.2.1, 2, .inl nfo_19))] := hw_15.symm
  clear hw_15; subst hw_15x
  refine g_iload_n X dX11_right_26 rfl ?_
  refine g_if_ne X 37 dX11_right_27 (by decide) (fun c27_26 => ?_) (fun c27_26 => absurd c27_26 (by decide))
  refine g_iload_n X dX11_right_37 rfl ?_
  refine g_aload_n X dX11_right_38 rfl ?_
  refine g_get X uwX11 0 rfl rfl 25 (by decide) kl_X11_176 rfl rfl gwX11 dX11_right_39 ?_
  refine g_icmp_gt X 56 dX11_right_42 (by decide) (fun c42_27 => ?_) (fun c42_27 => ?_)
  · have c42_27d := Int32.not_le.mpr c42_27
    refine g_bipush X (-4) dX11_right_56 (by decide) ?_
    exact g_iret X E dX11_right_58 ⟨nfm_18, nfo_19, ntr_20, nse_21⟩ (-4) (rgt_1b hf0_22 hf1_23 hf2_24 hf3_25 c42_27) rfl
  · have c42_27d := Int32.not_lt.mp c42_27
    refine g_aload_n X dX11_right_45 rfl ?_
    refine g_get X uwX11 0 rfl rfl 24 (by decide) kl_X11_52 rfl rfl gwX11 dX11_right_46 ?_
    refine g_iload_n X dX11_right_49 rfl ?_
    refine g_iconst X (1) dX11_right_50 (by decide) ?_
    refine g_isub X dX11_right_51 ?_
    refine g_toe (x' := 0) (by decide) ?_
    refine g_iald' X 5 rfl (i := 0) rfl (by omega) (by omega) dX11_right_52 ?_
    refine g_goto X 58 dX11_right_53 (by decide) ?_
    exact g_iret X E dX11_right_58 ⟨nfm_18, nfo_19, ntr_20, nse_21⟩ (nfo_19 0) (rgt_1a hf0_22 hf1_23 hf2_24 hf3_25 c42_27) rfl

set_option maxHeartbeats 4000000 in
set_option maxRecDepth 100000 in
theorem w_right_2 (V : gV) (mm : Nat) (mtx : Nat) (mnu : Nat) (mrc : Nat) (mrw : Nat) (mrl : Nat) (mki : Nat) (mwa : Nat) (mle : Nat) (mno : Nat) (mtr : Nat) (mse : Nat) (mba : Nat) (mim : Nat) (msi : Nat) (mfo : Nat) (mor : Nat) (mbo : Nat) (mma : Nat) (mbm : Nat) (mso : Nat) (le_ : Int32) (po_ : Int32) (fa_ : Int32) (rcl_ : Int32) (rle_ : Int32) (n : Nat) (ls_ : Int32) (ba_ : Int32) (km_ : Int32) (si_ : Int32) (fm_ : Int32) (k : Nat → Int32) (day : Int32) (w : Nat → Int32) (g : Nat → Int32) (fo : Nat → Int32) (tr : Nat → Int32) (se : Nat → Int32) (v : Int32) (hn : n ≤ 7) (hB : Bd n w) (h1 : ¬ v < 0) (h2 : ¬ 100 < v) : Ki V yX11_right cX11_right 3 .int ({ frames := 4, cells := 0, slots := 0, locals := 94 }) [.ref mm, .int v, .int 2] [(mm, .inr (11, [.int le_, .ref mtx, .int po_, .ref mnu, .int fa_, .int rcl_, .int rle_, .ref mrc, .ref mrw, .ref mrl, .int (nI n), .ref mki, .ref mwa, .int ls_, .ref mle, .ref mno, .ref mtr, .ref mse, .ref mba, .int ba_, .ref mim, .int km_, .int si_, .ref msi, .ref mfo, .int fm_, .ref mor, .ref mbo, .ref mma, .ref mbm, .ref mso])), (mki, .inl (V.2.2.1, 7, .inl k)), (mno, .inl (V.2.2.1, 15, .inl (stF day w g))), (mtr, .inl (V.2.2.1, 15, .inl tr)), (mse, .inl (V.2.2.1, 15, .inl se)), (mfo, .inl (V.2.2.1, 2, .inl fo))] (fun (r : Int32) (u : Int32 × (Nat → Int32) × (Nat → Int32) × (Nat → Int32)) => r = rgtF 2 (cureF k day n v w)) (fun u => [(mm, .inr (11, [.int le_, .ref mtx, .int po_, .ref mnu, .int fa_, .int rcl_, .int rle_, .ref mrc, .ref mrw, .ref mrl, .int (nI n), .ref mki, .ref mwa, .int ls_, .ref mle, .ref mno, .ref mtr, .ref mse, .ref mba, .int ba_, .ref mim, .int km_, .int si_, .ref msi, .ref mfo, .int u.1, .ref mor, .ref mbo, .ref mma, .ref mbm, .ref mso])), (mki, .inl (V.2.2.1, 7, .inl k)), (mno, .inl (V.2.2.1, 15, .inl (stF day w g))), (mtr, .inl (V.2.2.1, 15, .inl u.2.2.1)), (mse, .inl (V.2.2.1, 15, .inl u.2.2.2)), (mfo, .inl (V.2.2.1, 2, .inl u.2.1))]) := by
  refine Ki.of [some (.ref mm), some (.int v), some (.int 2)] (by decide) (Nat.le_of_ble_eq_true rfl) rfl rfl ?_
  intro Z X E
  have X : gX V Z RX11 cX11_right 3 ({ frames := 4, cells := 0, slots := 0, locals := 94 }) := X
  refine g_iload_n X dX11_right_0 rfl ?_
  refine g_iconst X (0) dX11_right_1 (by decide) ?_
  refine g_bipush X (100) dX11_right_2 (by decide) ?_
  refine g_callSi X (c_X11_in V v 0 100) mo_X11_in kl_X11_94 [] [0, 0, 0, 0, 0, 0] rfl (by decide +kernel) rfl rfl (fun _ => Nat.le_of_ble_eq_true rfl) (As := [.int v, .int 0, .int 100]) (st := []) (cs' := (0, 0)) rfl rfl rfl dX11_right_4 (fun r_5 u_1 hp_2 ws_4 hw_3 => ?_)
  obtain rfl : r_5 = inF v 0 100 := hp_2
  have hw_3x : ws_4 = [(mm, .inr (11, [.int le_, .ref mtx, .int po_, .ref mnu, .int fa_, .int rcl_, .int rle_, .ref mrc, .ref mrw, .ref mrl, .int (nI n), .ref mki, .ref mwa, .int ls_, .ref mle, .ref mno, .ref mtr, .ref mse, .ref mba, .int ba_, .ref mim, .int km_, .int si_, .ref msi, .ref mfo, .int fm_, .ref mor, .ref mbo, .ref mma, .ref mbm, .ref mso])), (mki, .inl (V.2.2.1, 7, .inl k)), (mno, .inl (V.2.2.1, 15, .inl (stF day w g))), (mtr, .inl (V.2.2.1, 15, .inl tr)), (mse, .inl (V.2.2.1, 15, .inl se)), (mfo, .inl (V.2.2.1, 2, .inl fo))] := hw_3.symm
  clear hw_3; subst hw_3x
  refine g_if_eq X 19 dX11_right_7 (by decide) (fun c7_6 => absurd c7_6 (by rw [inF_1 h1 h2]; decide)) (fun c7_6 => ?_)
  refine g_iload_n X dX11_right_10 rfl ?_
  refine g_iconst X (0) dX11_right_11 (by decide) ?_
  refine g_iconst X (2) dX11_right_12 (by decide) ?_
  refine g_callSi X (c_X11_in V 2 0 2) mo_X11_in kl_X11_94 [] [0, 0, 0, 0, 0, 0] rfl (by decide +kernel) rfl rfl (fun _ => Nat.le_of_ble_eq_true rfl) (As := [.int 2, .int 0, .int 2]) (st := []) (cs' := (0, 0)) rfl rfl rfl dX11_right_13 (fun r_11 u_7 hp_8 ws_10 hw_9 => ?_)
  obtain rfl : r_11 = inF 2 0 2 := hp_8
  have hw_9x : ws_10 = [(mm, .inr (11, [.int le_, .ref mtx, .int po_, .ref mnu, .int fa_, .int rcl_, .int rle_, .ref mrc, .ref mrw, .ref mrl, .int (nI n), .ref mki, .ref mwa, .int ls_, .ref mle, .ref mno, .ref mtr, .ref mse, .ref mba, .int ba_, .ref mim, .int km_, .int si_, .ref msi, .ref mfo, .int fm_, .ref mor, .ref mbo, .ref mma, .ref mbm, .ref mso])), (mki, .inl (V.2.2.1, 7, .inl k)), (mno, .inl (V.2.2.1, 15, .inl (stF day w g))), (mtr, .inl (V.2.2.1, 15, .inl tr)), (mse, .inl (V.2.2.1, 15, .inl se)), (mfo, .inl (V.2.2.1, 2, .inl fo))] := hw_9.symm
  clear hw_9; subst hw_9x
  refine g_if_ne X 21 dX11_right_16 (by decide) (fun c16_12 => ?_) (fun c16_12 => absurd c16_12 (by decide))
  refine g_aload_n X dX11_right_21 rfl ?_
  refine g_iload_n X dX11_right_22 rfl ?_
  refine g_callVv X (c_X11_layRight V mm mtx mnu mrc mrw mrl mki mwa mle mno mtr mse mba mim msi mfo mor mbo mma mbm mso le_ po_ fa_ rcl_ rle_ n ls_ ba_ km_ si_ fm_ k day w g fo tr se v (by omega) (by omega)) mo_X11_layRight kl_X11_185 [0, 1, 2, 3, 4, 5] [1, 2, 3, 4, 5, 6] rfl (by decide +kernel) rfl rfl (fun _ => Nat.le_of_ble_eq_true rfl) 0 11 rfl rfl (As := [.int v]) (st := []) (cs' := (0, 0)) rfl rfl rfl rfl dX11_right_23 (fun u_13 hp_14 ws_16 hw_15 => ?_)
  obtain ⟨nfm_18, nfo_19, ntr_20, nse_21⟩ := u_13
  obtain ⟨hf0_22, hf1_23, hf2_24, hf3_25⟩ : nfm_18 = (cureF k day n v w).1 ∧ (1 = nfm_18 ∨ 2 = nfm_18 → nfo_19 0 = (cureF k day n v w).2.1) ∧ (2 = nfm_18 → nfo_19 1 = (cureF k day n v w).2.2) ∧ (nfm_18 = 0 ∨ nfm_18 = 1 ∨ nfm_18 = 2 ∨ nfm_18 = -4) := hp_14
  have hw_15x : ws_16 = [(mm, .inr (11, [.int le_, .ref mtx, .int po_, .ref mnu, .int fa_, .int rcl_, .int rle_, .ref mrc, .ref mrw, .ref mrl, .int (nI n), .ref mki, .ref mwa, .int ls_, .ref mle, .ref mno, .ref mtr, .ref mse, .ref mba, .int ba_, .ref mim, .int km_, .int si_, .ref msi, .ref mfo, .int nfm_18, .ref mor, .ref mbo, .ref mma, .ref mbm, .ref mso])), (mki, .inl (V.2.2.1, 7, .inl k)), (mno, .inl (V.2.2.1, 15, .inl (stF day w g))), (mtr, .inl (V.2.2.1, 15, .inl ntr_20)), (mse, .inl (V.2.2.1, 15, .inl nse_21)), (mfo, .inl (V.2.2.1, 2, .inl nfo_19))] := hw_15.symm
  clear hw_15; subst hw_15x
  refine g_iload_n X dX11_right_26 rfl ?_
  refine g_if_ne X 37 dX11_right_27 (by decide) (fun c27_26 => ?_) (fun c27_26 => absurd c27_26 (by decide))
  refine g_iload_n X dX11_right_37 rfl ?_
  refine g_aload_n X dX11_right_38 rfl ?_
  refine g_get X uwX11 0 rfl rfl 25 (by decide) kl_X11_176 rfl rfl gwX11 dX11_right_39 ?_
  refine g_icmp_gt X 56 dX11_right_42 (by decide) (fun c42_27 => ?_) (fun c42_27 => ?_)
  · have c42_27d := Int32.not_le.mpr c42_27
    refine g_bipush X (-4) dX11_right_56 (by decide) ?_
    exact g_iret X E dX11_right_58 ⟨nfm_18, nfo_19, ntr_20, nse_21⟩ (-4) (rgt_2b hf0_22 hf1_23 hf2_24 hf3_25 c42_27) rfl
  · have c42_27d := Int32.not_lt.mp c42_27
    refine g_aload_n X dX11_right_45 rfl ?_
    refine g_get X uwX11 0 rfl rfl 24 (by decide) kl_X11_52 rfl rfl gwX11 dX11_right_46 ?_
    refine g_iload_n X dX11_right_49 rfl ?_
    refine g_iconst X (1) dX11_right_50 (by decide) ?_
    refine g_isub X dX11_right_51 ?_
    refine g_toe (x' := 1) (by decide) ?_
    refine g_iald' X 5 rfl (i := 1) rfl (by omega) (by omega) dX11_right_52 ?_
    refine g_goto X 58 dX11_right_53 (by decide) ?_
    exact g_iret X E dX11_right_58 ⟨nfm_18, nfo_19, ntr_20, nse_21⟩ (nfo_19 1) (rgt_2a hf0_22 hf1_23 hf2_24 hf3_25 c42_27) rfl
