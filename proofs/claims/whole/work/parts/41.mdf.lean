set_option maxHeartbeats 4000000 in
set_option maxRecDepth 100000 in
theorem w_taught_bad (V : gV) (mm : Nat) (mtx : Nat) (mnu : Nat) (mrc : Nat) (mrw : Nat) (mrl : Nat) (mki : Nat) (mwa : Nat) (mle : Nat) (mno : Nat) (mtr : Nat) (mse : Nat) (mba : Nat) (mim : Nat) (msi : Nat) (mfo : Nat) (mor : Nat) (mbo : Nat) (mma : Nat) (mbm : Nat) (mso : Nat) (le_ : Int32) (po_ : Int32) (fa_ : Int32) (rcl_ : Int32) (rle_ : Int32) (cl_ : Int32) (ls_ : Int32) (ba_ : Int32) (km_ : Int32) (si_ : Int32) (fm_ : Int32) (v : Int32) (hbad : ¬ (v = 0 ∨ v = 1)) : Ki V yX11_taught cX11_taught 5 .int ({ frames := 1, cells := 0, slots := 0, locals := 22 }) [.ref mm, .int v] [(mm, .inr (11, [.int le_, .ref mtx, .int po_, .ref mnu, .int fa_, .int rcl_, .int rle_, .ref mrc, .ref mrw, .ref mrl, .int cl_, .ref mki, .ref mwa, .int ls_, .ref mle, .ref mno, .ref mtr, .ref mse, .ref mba, .int ba_, .ref mim, .int km_, .int si_, .ref msi, .ref mfo, .int fm_, .ref mor, .ref mbo, .ref mma, .ref mbm, .ref mso]))] (fun (r : Int32) (u : Unit) => r = -1) (fun u => [(mm, .inr (11, [.int le_, .ref mtx, .int po_, .ref mnu, .int fa_, .int rcl_, .int rle_, .ref mrc, .ref mrw, .ref mrl, .int cl_, .ref mki, .ref mwa, .int ls_, .ref mle, .ref mno, .ref mtr, .ref mse, .ref mba, .int ba_, .ref mim, .int km_, .int si_, .ref msi, .ref mfo, .int fm_, .ref mor, .ref mbo, .ref mma, .ref mbm, .ref mso]))]) := by
  refine Ki.of [some (.ref mm), some (.int v), none, none, none] (by decide) (Nat.le_of_ble_eq_true rfl) rfl rfl ?_
  intro Z X E
  have X : gX V Z RX11 cX11_taught 5 ({ frames := 1, cells := 0, slots := 0, locals := 22 }) := X
  refine g_iload_n X dX11_taught_0 rfl ?_
  refine g_iconst X (0) dX11_taught_1 (by decide) ?_
  refine g_iconst X (1) dX11_taught_2 (by decide) ?_
  refine g_callSi X (c_X11_in V v 0 1) mo_X11_in kl_X11_94 [] [0] rfl (by decide +kernel) rfl rfl (fun _ => Nat.le_of_ble_eq_true rfl) (As := [.int v, .int 0, .int 1]) (st := []) (cs' := (0, 0)) rfl rfl rfl dX11_taught_3 (fun r_5 u_1 hp_2 ws_4 hw_3 => ?_)
  obtain rfl : r_5 = inF v 0 1 := hp_2
  have hw_3x : ws_4 = [(mm, .inr (11, [.int le_, .ref mtx, .int po_, .ref mnu, .int fa_, .int rcl_, .int rle_, .ref mrc, .ref mrw, .ref mrl, .int cl_, .ref mki, .ref mwa, .int ls_, .ref mle, .ref mno, .ref mtr, .ref mse, .ref mba, .int ba_, .ref mim, .int km_, .int si_, .ref msi, .ref mfo, .int fm_, .ref mor, .ref mbo, .ref mma, .ref mbm, .ref mso]))] := hw_3.symm
  clear hw_3; subst hw_3x
  refine g_if_ne X 11 dX11_taught_6 (by decide) (fun c6_6 => absurd (inF_01 hbad) c6_6) (fun c6_6 => ?_)
  refine g_iconst X (-1) dX11_taught_9 (by decide) ?_
  exact g_iret X E dX11_taught_10 () (-1) (by first | rfl | (simp [c6_6]; done)) rfl

set_option maxHeartbeats 4000000 in
set_option maxRecDepth 100000 in
theorem w_taught_0 (V : gV) (mm : Nat) (mtx : Nat) (mnu : Nat) (mrc : Nat) (mrw : Nat) (mrl : Nat) (mki : Nat) (mwa : Nat) (mle : Nat) (mno : Nat) (mtr : Nat) (mse : Nat) (mba : Nat) (mim : Nat) (msi : Nat) (mfo : Nat) (mor : Nat) (mbo : Nat) (mma : Nat) (mbm : Nat) (mso : Nat) (le_ : Int32) (po_ : Int32) (fa_ : Int32) (rcl_ : Int32) (rle_ : Int32) (n : Nat) (ls_ : Int32) (ba_ : Int32) (km_ : Int32) (z : Nat) (fm_ : Int32) (k : Nat → Int32) (day : Int32) (w : Nat → Int32) (g : Nat → Int32) (tr : Nat → Int32) (rc : Nat → Nat) (rm : Nat → Int32) (hn : n ≤ 7) (hB : Bd n w) (hz : z ≤ 6) (hr : ∀ i, i < z → rc i < 7) : Ki V yX11_taught cX11_taught 5 .int ({ frames := 3, cells := 0, slots := 0, locals := 71 }) [.ref mm, .int 0] [(mm, .inr (11, [.int le_, .ref mtx, .int po_, .ref mnu, .int fa_, .int rcl_, .int rle_, .ref mrc, .ref mrw, .ref mrl, .int (nI n), .ref mki, .ref mwa, .int ls_, .ref mle, .ref mno, .ref mtr, .ref mse, .ref mba, .int ba_, .ref mim, .int km_, .int (nI z), .ref msi, .ref mfo, .int fm_, .ref mor, .ref mbo, .ref mma, .ref mbm, .ref mso])), (mki, .inl (V.2.2.1, 7, .inl k)), (mno, .inl (V.2.2.1, 15, .inl (stF day w g))), (mtr, .inl (V.2.2.1, 15, .inl tr)), (msi, .inl (V.2.2.1, 12, .inl (siF rc rm)))] (fun (r : Int32) (u : (Nat → Int32)) => r = nI (tauF k day n w z rc rm).1) (fun u => [(mm, .inr (11, [.int le_, .ref mtx, .int po_, .ref mnu, .int fa_, .int rcl_, .int rle_, .ref mrc, .ref mrw, .ref mrl, .int (nI n), .ref mki, .ref mwa, .int ls_, .ref mle, .ref mno, .ref mtr, .ref mse, .ref mba, .int ba_, .ref mim, .int km_, .int (nI z), .ref msi, .ref mfo, .int fm_, .ref mor, .ref mbo, .ref mma, .ref mbm, .ref mso])), (mki, .inl (V.2.2.1, 7, .inl k)), (mno, .inl (V.2.2.1, 15, .inl (stF day w g))), (mtr, .inl (V.2.2.1, 15, .inl u)), (msi, .inl (V.2.2.1, 12, .inl (siF rc rm)))]) := by
  refine Ki.of [some (.ref mm), some (.int 0), none, none, none] (by decide) (Nat.le_of_ble_eq_true rfl) rfl rfl ?_
  intro Z X E
  have X : gX V Z RX11 cX11_taught 5 ({ frames := 3, cells := 0, slots := 0, locals := 71 }) := X
  refine g_iload_n X dX11_taught_0 rfl ?_
  refine g_iconst X (0) dX11_taught_1 (by decide) ?_
  refine g_iconst X (1) dX11_taught_2 (by decide) ?_
  refine g_callSi X (c_X11_in V 0 0 1) mo_X11_in kl_X11_94 [] [0, 0, 0, 0, 0] rfl (by decide +kernel) rfl rfl (fun _ => Nat.le_of_ble_eq_true rfl) (As := [.int 0, .int 0, .int 1]) (st := []) (cs' := (0, 0)) rfl rfl rfl dX11_taught_3 (fun r_5 u_1 hp_2 ws_4 hw_3 => ?_)
  obtain rfl : r_5 = inF 0 0 1 := hp_2
  have hw_3x : ws_4 = [(mm, .inr (11, [.int le_, .ref mtx, .int po_, .ref mnu, .int fa_, .int rcl_, .int rle_, .ref mrc, .ref mrw, .ref mrl, .int (nI n), .ref mki, .ref mwa, .int ls_, .ref mle, .ref mno, .ref mtr, .ref mse, .ref mba, .int ba_, .ref mim, .int km_, .int (nI z), .ref msi, .ref mfo, .int fm_, .ref mor, .ref mbo, .ref mma, .ref mbm, .ref mso])), (mki, .inl (V.2.2.1, 7, .inl k)), (mno, .inl (V.2.2.1, 15, .inl (stF day w g))), (mtr, .inl (V.2.2.1, 15, .inl tr)), (msi, .inl (V.2.2.1, 12, .inl (siF rc rm)))] := hw_3.symm
  clear hw_3; subst hw_3x
  refine g_if_ne X 11 dX11_taught_6 (by decide) (fun c6_6 => ?_) (fun c6_6 => absurd c6_6 (by decide))
  refine g_iconst X (0) dX11_taught_11 (by decide) ?_
  refine g_istore_n X (L' := [some (.ref mm), some (.int 0), some (.int 0), none, none]) dX11_taught_12 (by decide) rfl rfl ?_
  refine g_bipush X (-4) dX11_taught_13 (by decide) ?_
  refine g_istore_n X (L' := [some (.ref mm), some (.int 0), some (.int 0), some (.int (-4)), none]) dX11_taught_15 (by decide) rfl rfl ?_
  refine g_bipush X (69) dX11_taught_16 (by decide) ?_
  refine g_toe (x' := nI 70 - 1) (by decide) ?_
  refine g_istore X (L' := [some (.ref mm), some (.int 0), some (.int 0), some (.int (-4)), some (.int (nI 70 - 1))]) dX11_taught_18 (by decide) rfl rfl ?_
  have loop20_7 : ∀ (d20 : Nat) (j : Nat) (cn : Nat) (be : Int32) (tr1 : Nat → Int32) (hj : j ≤ 70) (hcn : cn + cnt (tauT k day n w z rc rm) j = cnt (tauT k day n w z rc rm) 70) (hbe : be = fiD (tauT k day n w z rc rm) nI 70 j), j < d20 → G V Z 5 (0, 0) [(mm, .inr (11, [.int le_, .ref mtx, .int po_, .ref mnu, .int fa_, .int rcl_, .int rle_, .ref mrc, .ref mrw, .ref mrl, .int (nI n), .ref mki, .ref mwa, .int ls_, .ref mle, .ref mno, .ref mtr, .ref mse, .ref mba, .int ba_, .ref mim, .int km_, .int (nI z), .ref msi, .ref mfo, .int fm_, .ref mor, .ref mbo, .ref mma, .ref mbm, .ref mso])), (mki, .inl (V.2.2.1, 7, .inl k)), (mno, .inl (V.2.2.1, 15, .inl (stF day w g))), (mtr, .inl (V.2.2.1, 15, .inl tr1)), (msi, .inl (V.2.2.1, 12, .inl (siF rc rm)))] 20 [some (.ref mm), some (.int 0), some (.int (nI cn)), some (.int be), some (.int (nI j - 1))] [] := by
    intro d20
    induction d20 with
    | zero => intro j cn be tr1 hj hcn hbe hmu; exact absurd hmu (Nat.not_lt_zero _)
    | succ d20 ih20 =>
      intro j cn be tr1 hj hcn hbe hmu
      have hcl : cn ≤ 70 := by have := cnt_le (tauT k day n w z rc rm) 70; omega
      cases j with
        | zero =>
          refine g_cast (L' := [some (.ref mm), some (.int 0), some (.int (nI cn)), some (.int be), some (.int (-1))]) ?_ rfl (by rw [show nI 0 - 1 = -1 from by decide]) rfl
          refine g_iload X dX11_taught_20 rfl ?_
          refine g_if_lt X 74 dX11_taught_22 (by decide) (fun c22_8 => ?_) (fun c22_8 => absurd (by decide) c22_8)
          refine g_iload_n X dX11_taught_74 rfl ?_
          refine g_if_ne X 82 dX11_taught_75 (by decide) (fun c75_9 => absurd (by decide) c75_9) (fun c75_9 => ?_)
          refine g_iload_n X dX11_taught_78 rfl ?_
          refine g_goto X 83 dX11_taught_79 (by decide) ?_
          exact g_iret X E dX11_taught_83 tr1 (nI cn) (by rw [tau_eq hn]; exact congrArg nI hcn) rfl
        | succ j =>
          refine g_cast (L' := [some (.ref mm), some (.int 0), some (.int (nI cn)), some (.int be), some (.int (nI j))]) ?_ rfl (by rw [show nI (j + 1) - 1 = nI j from nI_pred j]) rfl
          refine g_iload X dX11_taught_20 rfl ?_
          refine g_if_lt X 74 dX11_taught_22 (by decide) (fun c22_10 => absurd c22_10 (flt (a := j) (b := 0) (by omega) (by omega) (by omega))) (fun c22_10 => ?_)
          refine g_aload_n X dX11_taught_25 rfl ?_
          refine g_get X uwX11 0 rfl rfl 15 (by decide) kl_X11_34 rfl rfl gwX11 dX11_taught_26 ?_
          refine g_iconst X (0) dX11_taught_29 (by decide) ?_
          refine g_aload_n X dX11_taught_30 rfl ?_
          refine g_get X uwX11 0 rfl rfl 16 (by decide) kl_X11_37 rfl rfl gwX11 dX11_taught_31 ?_
          refine g_iconst X (0) dX11_taught_34 (by decide) ?_
          refine g_callSv X (c_X11_copy V mno 15 (stF day w g) mtr 15 tr1 0 0 (by omega) (by omega) (by omega) (by omega)) mo_X11_copy kl_X11_165 [2, 3] [0, 0, 1, 2, 0] rfl (by decide +kernel) rfl rfl (fun _ => Nat.le_of_ble_eq_true rfl) (As := [.ref mno, .int 0, .ref mtr, .int 0]) (st := []) (cs' := (0, 0)) rfl rfl rfl dX11_taught_35 (fun u_11 hp_12 ws_14 hw_13 => ?_)
          have hw_13x : ws_14 = [(mm, .inr (11, [.int le_, .ref mtx, .int po_, .ref mnu, .int fa_, .int rcl_, .int rle_, .ref mrc, .ref mrw, .ref mrl, .int (nI n), .ref mki, .ref mwa, .int ls_, .ref mle, .ref mno, .ref mtr, .ref mse, .ref mba, .int ba_, .ref mim, .int km_, .int (nI z), .ref msi, .ref mfo, .int fm_, .ref mor, .ref mbo, .ref mma, .ref mbm, .ref mso])), (mki, .inl (V.2.2.1, 7, .inl k)), (mno, .inl (V.2.2.1, 15, .inl (stF day w g))), (mtr, .inl (V.2.2.1, 15, .inl (cpM 0 0 (stF day w g) tr1))), (msi, .inl (V.2.2.1, 12, .inl (siF rc rm)))] := hw_13.symm
          clear hw_13; subst hw_13x
          refine g_arr 3 (stF day w g) rfl cpM_0 (ws' := [(mm, .inr (11, [.int le_, .ref mtx, .int po_, .ref mnu, .int fa_, .int rcl_, .int rle_, .ref mrc, .ref mrw, .ref mrl, .int (nI n), .ref mki, .ref mwa, .int ls_, .ref mle, .ref mno, .ref mtr, .ref mse, .ref mba, .int ba_, .ref mim, .int km_, .int (nI z), .ref msi, .ref mfo, .int fm_, .ref mor, .ref mbo, .ref mma, .ref mbm, .ref mso])), (mki, .inl (V.2.2.1, 7, .inl k)), (mno, .inl (V.2.2.1, 15, .inl (stF day w g))), (mtr, .inl (V.2.2.1, 15, .inl (stF day w g))), (msi, .inl (V.2.2.1, 12, .inl (siF rc rm)))]) rfl ?_
          refine g_aload_n X dX11_taught_38 rfl ?_
          refine g_aload_n X dX11_taught_39 rfl ?_
          refine g_get X uwX11 0 rfl rfl 16 (by decide) kl_X11_37 rfl rfl gwX11 dX11_taught_40 ?_
          refine g_iload X dX11_taught_43 rfl ?_
          by_cases htk : tOK k day n j
          · refine g_callVi X (c_X11_teaches_yes V mm mtx mnu mrc mrw mrl mki mwa mle mno mtr mse mba mim msi mfo mor mbo mma mbm mso le_ po_ fa_ rcl_ rle_ n ls_ ba_ km_ (nI z) fm_ k day w g mtr j (by omega) (by omega) (by omega) htk) mo_X11_teaches kl_X11_182 [0, 1, 3] [1, 2, 0, 3, 0] rfl (by decide +kernel) rfl rfl (fun _ => Nat.le_of_ble_eq_true rfl) 0 11 rfl rfl (As := [.ref mtr, .int (nI j)]) (st := []) (cs' := (0, 0)) rfl rfl rfl rfl dX11_taught_45 (fun r_20 u_16 hp_17 ws_19 hw_18 => ?_)
            obtain rfl : r_20 = 1 := hp_17
            have hw_18x : ws_19 = [(mm, .inr (11, [.int le_, .ref mtx, .int po_, .ref mnu, .int fa_, .int rcl_, .int rle_, .ref mrc, .ref mrw, .ref mrl, .int (nI n), .ref mki, .ref mwa, .int ls_, .ref mle, .ref mno, .ref mtr, .ref mse, .ref mba, .int ba_, .ref mim, .int km_, .int (nI z), .ref msi, .ref mfo, .int fm_, .ref mor, .ref mbo, .ref mma, .ref mbm, .ref mso])), (mki, .inl (V.2.2.1, 7, .inl k)), (mno, .inl (V.2.2.1, 15, .inl (stF day w g))), (mtr, .inl (V.2.2.1, 15, .inl (stF day (tLe k day j w) g))), (msi, .inl (V.2.2.1, 12, .inl (siF rc rm)))] := hw_18.symm
            clear hw_18; subst hw_18x
            refine g_if_eq X 68 dX11_taught_48 (by decide) (fun c48_21 => absurd c48_21 (by decide)) (fun c48_21 => ?_)
            refine g_aload_n X dX11_taught_51 rfl ?_
            refine g_aload_n X dX11_taught_52 rfl ?_
            refine g_get X uwX11 0 rfl rfl 16 (by decide) kl_X11_37 rfl rfl gwX11 dX11_taught_53 ?_
            refine g_callVi X (c_X11_isSo V mm mtx mnu mrc mrw mrl mki mwa mle mno mtr mse mba mim msi mfo mor mbo mma mbm mso le_ po_ fa_ rcl_ rle_ (nI n) ls_ ba_ km_ z fm_ rc rm day (tLe k day j w) g mtr (by omega) (by omega)) mo_X11_isSo kl_X11_199 [0, 4, 3] [1, 0, 0, 3, 2] rfl (by decide +kernel) rfl rfl (fun _ => Nat.le_of_ble_eq_true rfl) 0 11 rfl rfl (As := [.ref mtr]) (st := []) (cs' := (0, 0)) rfl rfl rfl rfl dX11_taught_56 (fun r_26 u_22 hp_23 ws_25 hw_24 => ?_)
            obtain rfl : r_26 = fitF z rc rm (tLe k day j w) := hp_23
            have hw_24x : ws_25 = [(mm, .inr (11, [.int le_, .ref mtx, .int po_, .ref mnu, .int fa_, .int rcl_, .int rle_, .ref mrc, .ref mrw, .ref mrl, .int (nI n), .ref mki, .ref mwa, .int ls_, .ref mle, .ref mno, .ref mtr, .ref mse, .ref mba, .int ba_, .ref mim, .int km_, .int (nI z), .ref msi, .ref mfo, .int fm_, .ref mor, .ref mbo, .ref mma, .ref mbm, .ref mso])), (mki, .inl (V.2.2.1, 7, .inl k)), (mno, .inl (V.2.2.1, 15, .inl (stF day w g))), (mtr, .inl (V.2.2.1, 15, .inl (stF day (tLe k day j w) g))), (msi, .inl (V.2.2.1, 12, .inl (siF rc rm)))] := hw_24.symm
            clear hw_24; subst hw_24x
            refine g_if_eq X 68 dX11_taught_59 (by decide) (fun c59_27 => ?_) (fun c59_27 => ?_)
            · have hT : tauT k day n w z rc rm j = false := decide_eq_false (fun q => q.2 c59_27)
              refine g_iinc X (v := nI j - 1) (L' := [some (.ref mm), some (.int 0), some (.int (nI cn)), some (.int be), some (.int (nI j - 1))]) dX11_taught_68 rfl (by rw [show Int32.ofInt (-1) = -1 from by decide, ← Int32.sub_eq_add_neg]) (by decide) rfl rfl ?_
              refine g_goto X 20 dX11_taught_71 (by decide) ?_
              exact ih20 j cn be (stF day (tLe k day j w) g) (by omega) (dn_F hT hcn) (dv_F (by omega) hT hbe) (by omega)
            · have hT : tauT k day n w z rc rm j = true := decide_eq_true ⟨htk, c59_27⟩
              refine g_iinc X (v := nI (cn + 1)) (L' := [some (.ref mm), some (.int 0), some (.int (nI (cn + 1))), some (.int be), some (.int (nI j))]) dX11_taught_62 rfl (nI_addk (by decide)) (by decide) rfl rfl ?_
              refine g_iload X dX11_taught_65 rfl ?_
              refine g_istore_n X (L' := [some (.ref mm), some (.int 0), some (.int (nI (cn + 1))), some (.int (nI j)), some (.int (nI j))]) dX11_taught_67 (by decide) rfl rfl ?_
              refine g_iinc X (v := nI j - 1) (L' := [some (.ref mm), some (.int 0), some (.int (nI (cn + 1))), some (.int (nI j)), some (.int (nI j - 1))]) dX11_taught_68 rfl (by rw [show Int32.ofInt (-1) = -1 from by decide, ← Int32.sub_eq_add_neg]) (by decide) rfl rfl ?_
              refine g_goto X 20 dX11_taught_71 (by decide) ?_
              exact ih20 j (cn + 1) (nI j) (stF day (tLe k day j w) g) (by omega) (dn_T hT hcn) (dv_T (v := nI) (by omega) hT) (by omega)
          · refine g_callVi X (c_X11_teaches_no V mm mtx mnu mrc mrw mrl mki mwa mle mno mtr mse mba mim msi mfo mor mbo mma mbm mso le_ po_ fa_ rcl_ rle_ n ls_ ba_ km_ (nI z) fm_ k day w g mtr j (by omega) (by omega) htk) mo_X11_teaches kl_X11_182 [0, 1, 3] [1, 2, 0, 3, 0] rfl (by decide +kernel) rfl rfl (fun _ => Nat.le_of_ble_eq_true rfl) 0 11 rfl rfl (As := [.ref mtr, .int (nI j)]) (st := []) (cs' := (0, 0)) rfl rfl rfl rfl dX11_taught_45 (fun r_32 u_28 hp_29 ws_31 hw_30 => ?_)
            obtain rfl : r_32 = 0 := hp_29
            have hw_30x : ws_31 = [(mm, .inr (11, [.int le_, .ref mtx, .int po_, .ref mnu, .int fa_, .int rcl_, .int rle_, .ref mrc, .ref mrw, .ref mrl, .int (nI n), .ref mki, .ref mwa, .int ls_, .ref mle, .ref mno, .ref mtr, .ref mse, .ref mba, .int ba_, .ref mim, .int km_, .int (nI z), .ref msi, .ref mfo, .int fm_, .ref mor, .ref mbo, .ref mma, .ref mbm, .ref mso])), (mki, .inl (V.2.2.1, 7, .inl k)), (mno, .inl (V.2.2.1, 15, .inl (stF day w g))), (mtr, .inl (V.2.2.1, 15, .inl (stF day w g))), (msi, .inl (V.2.2.1, 12, .inl (siF rc rm)))] := hw_30.symm
            clear hw_30; subst hw_30x
            refine g_if_eq X 68 dX11_taught_48 (by decide) (fun c48_33 => ?_) (fun c48_33 => absurd (by decide) c48_33)
            have hT : tauT k day n w z rc rm j = false := decide_eq_false (fun q => htk q.1)
            refine g_iinc X (v := nI j - 1) (L' := [some (.ref mm), some (.int 0), some (.int (nI cn)), some (.int be), some (.int (nI j - 1))]) dX11_taught_68 rfl (by rw [show Int32.ofInt (-1) = -1 from by decide, ← Int32.sub_eq_add_neg]) (by decide) rfl rfl ?_
            refine g_goto X 20 dX11_taught_71 (by decide) ?_
            exact ih20 j cn be (stF day w g) (by omega) (dn_F hT hcn) (dv_F (by omega) hT hbe) (by omega)
  exact loop20_7 _ 70 0 (-4) tr (Nat.le_refl _) (Nat.zero_add _) (fiD_N _ _ _).symm (Nat.lt_succ_self _)

set_option maxHeartbeats 4000000 in
set_option maxRecDepth 100000 in
theorem w_taught_1 (V : gV) (mm : Nat) (mtx : Nat) (mnu : Nat) (mrc : Nat) (mrw : Nat) (mrl : Nat) (mki : Nat) (mwa : Nat) (mle : Nat) (mno : Nat) (mtr : Nat) (mse : Nat) (mba : Nat) (mim : Nat) (msi : Nat) (mfo : Nat) (mor : Nat) (mbo : Nat) (mma : Nat) (mbm : Nat) (mso : Nat) (le_ : Int32) (po_ : Int32) (fa_ : Int32) (rcl_ : Int32) (rle_ : Int32) (n : Nat) (ls_ : Int32) (ba_ : Int32) (km_ : Int32) (z : Nat) (fm_ : Int32) (k : Nat → Int32) (day : Int32) (w : Nat → Int32) (g : Nat → Int32) (tr : Nat → Int32) (rc : Nat → Nat) (rm : Nat → Int32) (hn : n ≤ 7) (hB : Bd n w) (hz : z ≤ 6) (hr : ∀ i, i < z → rc i < 7) : Ki V yX11_taught cX11_taught 5 .int ({ frames := 3, cells := 0, slots := 0, locals := 71 }) [.ref mm, .int 1] [(mm, .inr (11, [.int le_, .ref mtx, .int po_, .ref mnu, .int fa_, .int rcl_, .int rle_, .ref mrc, .ref mrw, .ref mrl, .int (nI n), .ref mki, .ref mwa, .int ls_, .ref mle, .ref mno, .ref mtr, .ref mse, .ref mba, .int ba_, .ref mim, .int km_, .int (nI z), .ref msi, .ref mfo, .int fm_, .ref mor, .ref mbo, .ref mma, .ref mbm, .ref mso])), (mki, .inl (V.2.2.1, 7, .inl k)), (mno, .inl (V.2.2.1, 15, .inl (stF day w g))), (mtr, .inl (V.2.2.1, 15, .inl tr)), (msi, .inl (V.2.2.1, 12, .inl (siF rc rm)))] (fun (r : Int32) (u : (Nat → Int32)) => r = (tauF k day n w z rc rm).2) (fun u => [(mm, .inr (11, [.int le_, .ref mtx, .int po_, .ref mnu, .int fa_, .int rcl_, .int rle_, .ref mrc, .ref mrw, .ref mrl, .int (nI n), .ref mki, .ref mwa, .int ls_, .ref mle, .ref mno, .ref mtr, .ref mse, .ref mba, .int ba_, .ref mim, .int km_, .int (nI z), .ref msi, .ref mfo, .int fm_, .ref mor, .ref mbo, .ref mma, .ref mbm, .ref mso])), (mki, .inl (V.2.2.1, 7, .inl k)), (mno, .inl (V.2.2.1, 15, .inl (stF day w g))), (mtr, .inl (V.2.2.1, 15, .inl u)), (msi, .inl (V.2.2.1, 12, .inl (siF rc rm)))]) := by
  refine Ki.of [some (.ref mm), some (.int 1), none, none, none] (by decide) (Nat.le_of_ble_eq_true rfl) rfl rfl ?_
  intro Z X E
  have X : gX V Z RX11 cX11_taught 5 ({ frames := 3, cells := 0, slots := 0, locals := 71 }) := X
  refine g_iload_n X dX11_taught_0 rfl ?_
  refine g_iconst X (0) dX11_taught_1 (by decide) ?_
  refine g_iconst X (1) dX11_taught_2 (by decide) ?_
  refine g_callSi X (c_X11_in V 1 0 1) mo_X11_in kl_X11_94 [] [0, 0, 0, 0, 0] rfl (by decide +kernel) rfl rfl (fun _ => Nat.le_of_ble_eq_true rfl) (As := [.int 1, .int 0, .int 1]) (st := []) (cs' := (0, 0)) rfl rfl rfl dX11_taught_3 (fun r_5 u_1 hp_2 ws_4 hw_3 => ?_)
  obtain rfl : r_5 = inF 1 0 1 := hp_2
  have hw_3x : ws_4 = [(mm, .inr (11, [.int le_, .ref mtx, .int po_, .ref mnu, .int fa_, .int rcl_, .int rle_, .ref mrc, .ref mrw, .ref mrl, .int (nI n), .ref mki, .ref mwa, .int ls_, .ref mle, .ref mno, .ref mtr, .ref mse, .ref mba, .int ba_, .ref mim, .int km_, .int (nI z), .ref msi, .ref mfo, .int fm_, .ref mor, .ref mbo, .ref mma, .ref mbm, .ref mso])), (mki, .inl (V.2.2.1, 7, .inl k)), (mno, .inl (V.2.2.1, 15, .inl (stF day w g))), (mtr, .inl (V.2.2.1, 15, .inl tr)), (msi, .inl (V.2.2.1, 12, .inl (siF rc rm)))] := hw_3.symm
  clear hw_3; subst hw_3x
  refine g_if_ne X 11 dX11_taught_6 (by decide) (fun c6_6 => ?_) (fun c6_6 => absurd c6_6 (by decide))
  refine g_iconst X (0) dX11_taught_11 (by decide) ?_
  refine g_istore_n X (L' := [some (.ref mm), some (.int 1), some (.int 0), none, none]) dX11_taught_12 (by decide) rfl rfl ?_
  refine g_bipush X (-4) dX11_taught_13 (by decide) ?_
  refine g_istore_n X (L' := [some (.ref mm), some (.int 1), some (.int 0), some (.int (-4)), none]) dX11_taught_15 (by decide) rfl rfl ?_
  refine g_bipush X (69) dX11_taught_16 (by decide) ?_
  refine g_toe (x' := nI 70 - 1) (by decide) ?_
  refine g_istore X (L' := [some (.ref mm), some (.int 1), some (.int 0), some (.int (-4)), some (.int (nI 70 - 1))]) dX11_taught_18 (by decide) rfl rfl ?_
  have loop20_7 : ∀ (d20 : Nat) (j : Nat) (cn : Nat) (be : Int32) (tr1 : Nat → Int32) (hj : j ≤ 70) (hcn : cn + cnt (tauT k day n w z rc rm) j = cnt (tauT k day n w z rc rm) 70) (hbe : be = fiD (tauT k day n w z rc rm) nI 70 j), j < d20 → G V Z 5 (0, 0) [(mm, .inr (11, [.int le_, .ref mtx, .int po_, .ref mnu, .int fa_, .int rcl_, .int rle_, .ref mrc, .ref mrw, .ref mrl, .int (nI n), .ref mki, .ref mwa, .int ls_, .ref mle, .ref mno, .ref mtr, .ref mse, .ref mba, .int ba_, .ref mim, .int km_, .int (nI z), .ref msi, .ref mfo, .int fm_, .ref mor, .ref mbo, .ref mma, .ref mbm, .ref mso])), (mki, .inl (V.2.2.1, 7, .inl k)), (mno, .inl (V.2.2.1, 15, .inl (stF day w g))), (mtr, .inl (V.2.2.1, 15, .inl tr1)), (msi, .inl (V.2.2.1, 12, .inl (siF rc rm)))] 20 [some (.ref mm), some (.int 1), some (.int (nI cn)), some (.int be), some (.int (nI j - 1))] [] := by
    intro d20
    induction d20 with
    | zero => intro j cn be tr1 hj hcn hbe hmu; exact absurd hmu (Nat.not_lt_zero _)
    | succ d20 ih20 =>
      intro j cn be tr1 hj hcn hbe hmu
      have hcl : cn ≤ 70 := by have := cnt_le (tauT k day n w z rc rm) 70; omega
      cases j with
        | zero =>
          refine g_cast (L' := [some (.ref mm), some (.int 1), some (.int (nI cn)), some (.int be), some (.int (-1))]) ?_ rfl (by rw [show nI 0 - 1 = -1 from by decide]) rfl
          refine g_iload X dX11_taught_20 rfl ?_
          refine g_if_lt X 74 dX11_taught_22 (by decide) (fun c22_8 => ?_) (fun c22_8 => absurd (by decide) c22_8)
          refine g_iload_n X dX11_taught_74 rfl ?_
          refine g_if_ne X 82 dX11_taught_75 (by decide) (fun c75_9 => ?_) (fun c75_9 => absurd c75_9 (by decide))
          refine g_iload_n X dX11_taught_82 rfl ?_
          exact g_iret X E dX11_taught_83 tr1 be (by rw [tau_eq hn]; exact hbe) rfl
        | succ j =>
          refine g_cast (L' := [some (.ref mm), some (.int 1), some (.int (nI cn)), some (.int be), some (.int (nI j))]) ?_ rfl (by rw [show nI (j + 1) - 1 = nI j from nI_pred j]) rfl
          refine g_iload X dX11_taught_20 rfl ?_
          refine g_if_lt X 74 dX11_taught_22 (by decide) (fun c22_10 => absurd c22_10 (flt (a := j) (b := 0) (by omega) (by omega) (by omega))) (fun c22_10 => ?_)
          refine g_aload_n X dX11_taught_25 rfl ?_
          refine g_get X uwX11 0 rfl rfl 15 (by decide) kl_X11_34 rfl rfl gwX11 dX11_taught_26 ?_
          refine g_iconst X (0) dX11_taught_29 (by decide) ?_
          refine g_aload_n X dX11_taught_30 rfl ?_
          refine g_get X uwX11 0 rfl rfl 16 (by decide) kl_X11_37 rfl rfl gwX11 dX11_taught_31 ?_
          refine g_iconst X (0) dX11_taught_34 (by decide) ?_
          refine g_callSv X (c_X11_copy V mno 15 (stF day w g) mtr 15 tr1 0 0 (by omega) (by omega) (by omega) (by omega)) mo_X11_copy kl_X11_165 [2, 3] [0, 0, 1, 2, 0] rfl (by decide +kernel) rfl rfl (fun _ => Nat.le_of_ble_eq_true rfl) (As := [.ref mno, .int 0, .ref mtr, .int 0]) (st := []) (cs' := (0, 0)) rfl rfl rfl dX11_taught_35 (fun u_11 hp_12 ws_14 hw_13 => ?_)
          have hw_13x : ws_14 = [(mm, .inr (11, [.int le_, .ref mtx, .int po_, .ref mnu, .int fa_, .int rcl_, .int rle_, .ref mrc, .ref mrw, .ref mrl, .int (nI n), .ref mki, .ref mwa, .int ls_, .ref mle, .ref mno, .ref mtr, .ref mse, .ref mba, .int ba_, .ref mim, .int km_, .int (nI z), .ref msi, .ref mfo, .int fm_, .ref mor, .ref mbo, .ref mma, .ref mbm, .ref mso])), (mki, .inl (V.2.2.1, 7, .inl k)), (mno, .inl (V.2.2.1, 15, .inl (stF day w g))), (mtr, .inl (V.2.2.1, 15, .inl (cpM 0 0 (stF day w g) tr1))), (msi, .inl (V.2.2.1, 12, .inl (siF rc rm)))] := hw_13.symm
          clear hw_13; subst hw_13x
          refine g_arr 3 (stF day w g) rfl cpM_0 (ws' := [(mm, .inr (11, [.int le_, .ref mtx, .int po_, .ref mnu, .int fa_, .int rcl_, .int rle_, .ref mrc, .ref mrw, .ref mrl, .int (nI n), .ref mki, .ref mwa, .int ls_, .ref mle, .ref mno, .ref mtr, .ref mse, .ref mba, .int ba_, .ref mim, .int km_, .int (nI z), .ref msi, .ref mfo, .int fm_, .ref mor, .ref mbo, .ref mma, .ref mbm, .ref mso])), (mki, .inl (V.2.2.1, 7, .inl k)), (mno, .inl (V.2.2.1, 15, .inl (stF day w g))), (mtr, .inl (V.2.2.1, 15, .inl (stF day w g))), (msi, .inl (V.2.2.1, 12, .inl (siF rc rm)))]) rfl ?_
          refine g_aload_n X dX11_taught_38 rfl ?_
          refine g_aload_n X dX11_taught_39 rfl ?_
          refine g_get X uwX11 0 rfl rfl 16 (by decide) kl_X11_37 rfl rfl gwX11 dX11_taught_40 ?_
          refine g_iload X dX11_taught_43 rfl ?_
          by_cases htk : tOK k day n j
          · refine g_callVi X (c_X11_teaches_yes V mm mtx mnu mrc mrw mrl mki mwa mle mno mtr mse mba mim msi mfo mor mbo mma mbm mso le_ po_ fa_ rcl_ rle_ n ls_ ba_ km_ (nI z) fm_ k day w g mtr j (by omega) (by omega) (by omega) htk) mo_X11_teaches kl_X11_182 [0, 1, 3] [1, 2, 0, 3, 0] rfl (by decide +kernel) rfl rfl (fun _ => Nat.le_of_ble_eq_true rfl) 0 11 rfl rfl (As := [.ref mtr, .int (nI j)]) (st := []) (cs' := (0, 0)) rfl rfl rfl rfl dX11_taught_45 (fun r_20 u_16 hp_17 ws_19 hw_18 => ?_)
            obtain rfl : r_20 = 1 := hp_17
            have hw_18x : ws_19 = [(mm, .inr (11, [.int le_, .ref mtx, .int po_, .ref mnu, .int fa_, .int rcl_, .int rle_, .ref mrc, .ref mrw, .ref mrl, .int (nI n), .ref mki, .ref mwa, .int ls_, .ref mle, .ref mno, .ref mtr, .ref mse, .ref mba, .int ba_, .ref mim, .int km_, .int (nI z), .ref msi, .ref mfo, .int fm_, .ref mor, .ref mbo, .ref mma, .ref mbm, .ref mso])), (mki, .inl (V.2.2.1, 7, .inl k)), (mno, .inl (V.2.2.1, 15, .inl (stF day w g))), (mtr, .inl (V.2.2.1, 15, .inl (stF day (tLe k day j w) g))), (msi, .inl (V.2.2.1, 12, .inl (siF rc rm)))] := hw_18.symm
            clear hw_18; subst hw_18x
            refine g_if_eq X 68 dX11_taught_48 (by decide) (fun c48_21 => absurd c48_21 (by decide)) (fun c48_21 => ?_)
            refine g_aload_n X dX11_taught_51 rfl ?_
            refine g_aload_n X dX11_taught_52 rfl ?_
            refine g_get X uwX11 0 rfl rfl 16 (by decide) kl_X11_37 rfl rfl gwX11 dX11_taught_53 ?_
            refine g_callVi X (c_X11_isSo V mm mtx mnu mrc mrw mrl mki mwa mle mno mtr mse mba mim msi mfo mor mbo mma mbm mso le_ po_ fa_ rcl_ rle_ (nI n) ls_ ba_ km_ z fm_ rc rm day (tLe k day j w) g mtr (by omega) (by omega)) mo_X11_isSo kl_X11_199 [0, 4, 3] [1, 0, 0, 3, 2] rfl (by decide +kernel) rfl rfl (fun _ => Nat.le_of_ble_eq_true rfl) 0 11 rfl rfl (As := [.ref mtr]) (st := []) (cs' := (0, 0)) rfl rfl rfl rfl dX11_taught_56 (fun r_26 u_22 hp_23 ws_25 hw_24 => ?_)
            obtain rfl : r_26 = fitF z rc rm (tLe k day j w) := hp_23
            have hw_24x : ws_25 = [(mm, .inr (11, [.int le_, .ref mtx, .int po_, .ref mnu, .int fa_, .int rcl_, .int rle_, .ref mrc, .ref mrw, .ref mrl, .int (nI n), .ref mki, .ref mwa, .int ls_, .ref mle, .ref mno, .ref mtr, .ref mse, .ref mba, .int ba_, .ref mim, .int km_, .int (nI z), .ref msi, .ref mfo, .int fm_, .ref mor, .ref mbo, .ref mma, .ref mbm, .ref mso])), (mki, .inl (V.2.2.1, 7, .inl k)), (mno, .inl (V.2.2.1, 15, .inl (stF day w g))), (mtr, .inl (V.2.2.1, 15, .inl (stF day (tLe k day j w) g))), (msi, .inl (V.2.2.1, 12, .inl (siF rc rm)))] := hw_24.symm
            clear hw_24; subst hw_24x
            refine g_if_eq X 68 dX11_taught_59 (by decide) (fun c59_27 => ?_) (fun c59_27 => ?_)
            · have hT : tauT k day n w z rc rm j = false := decide_eq_false (fun q => q.2 c59_27)
              refine g_iinc X (v := nI j - 1) (L' := [some (.ref mm), some (.int 1), some (.int (nI cn)), some (.int be), some (.int (nI j - 1))]) dX11_taught_68 rfl (by rw [show Int32.ofInt (-1) = -1 from by decide, ← Int32.sub_eq_add_neg]) (by decide) rfl rfl ?_
              refine g_goto X 20 dX11_taught_71 (by decide) ?_
              exact ih20 j cn be (stF day (tLe k day j w) g) (by omega) (dn_F hT hcn) (dv_F (by omega) hT hbe) (by omega)
            · have hT : tauT k day n w z rc rm j = true := decide_eq_true ⟨htk, c59_27⟩
              refine g_iinc X (v := nI (cn + 1)) (L' := [some (.ref mm), some (.int 1), some (.int (nI (cn + 1))), some (.int be), some (.int (nI j))]) dX11_taught_62 rfl (nI_addk (by decide)) (by decide) rfl rfl ?_
              refine g_iload X dX11_taught_65 rfl ?_
              refine g_istore_n X (L' := [some (.ref mm), some (.int 1), some (.int (nI (cn + 1))), some (.int (nI j)), some (.int (nI j))]) dX11_taught_67 (by decide) rfl rfl ?_
              refine g_iinc X (v := nI j - 1) (L' := [some (.ref mm), some (.int 1), some (.int (nI (cn + 1))), some (.int (nI j)), some (.int (nI j - 1))]) dX11_taught_68 rfl (by rw [show Int32.ofInt (-1) = -1 from by decide, ← Int32.sub_eq_add_neg]) (by decide) rfl rfl ?_
              refine g_goto X 20 dX11_taught_71 (by decide) ?_
              exact ih20 j (cn + 1) (nI j) (stF day (tLe k day j w) g) (by omega) (dn_T hT hcn) (dv_T (v := nI) (by omega) hT) (by omega)
          · refine g_callVi X (c_X11_teaches_no V mm mtx mnu mrc mrw mrl mki mwa mle mno mtr mse mba mim msi mfo mor mbo mma mbm mso le_ po_ fa_ rcl_ rle_ n ls_ ba_ km_ (nI z) fm_ k day w g mtr j (by omega) (by omega) htk) mo_X11_teaches kl_X11_182 [0, 1, 3] [1, 2, 0, 3, 0] rfl (by decide +kernel) rfl rfl (fun _ => Nat.le_of_ble_eq_true rfl) 0 11 rfl rfl (As := [.ref mtr, .int (nI j)]) (st := []) (cs' := (0, 0)) rfl rfl rfl rfl dX11_taught_45 (fun r_32 u_28 hp_29 ws_31 hw_30 => ?_)
            obtain rfl : r_32 = 0 := hp_29
            have hw_30x : ws_31 = [(mm, .inr (11, [.int le_, .ref mtx, .int po_, .ref mnu, .int fa_, .int rcl_, .int rle_, .ref mrc, .ref mrw, .ref mrl, .int (nI n), .ref mki, .ref mwa, .int ls_, .ref mle, .ref mno, .ref mtr, .ref mse, .ref mba, .int ba_, .ref mim, .int km_, .int (nI z), .ref msi, .ref mfo, .int fm_, .ref mor, .ref mbo, .ref mma, .ref mbm, .ref mso])), (mki, .inl (V.2.2.1, 7, .inl k)), (mno, .inl (V.2.2.1, 15, .inl (stF day w g))), (mtr, .inl (V.2.2.1, 15, .inl (stF day w g))), (msi, .inl (V.2.2.1, 12, .inl (siF rc rm)))] := hw_30.symm
            clear hw_30; subst hw_30x
            refine g_if_eq X 68 dX11_taught_48 (by decide) (fun c48_33 => ?_) (fun c48_33 => absurd (by decide) c48_33)
            have hT : tauT k day n w z rc rm j = false := decide_eq_false (fun q => htk q.1)
            refine g_iinc X (v := nI j - 1) (L' := [some (.ref mm), some (.int 1), some (.int (nI cn)), some (.int be), some (.int (nI j - 1))]) dX11_taught_68 rfl (by rw [show Int32.ofInt (-1) = -1 from by decide, ← Int32.sub_eq_add_neg]) (by decide) rfl rfl ?_
            refine g_goto X 20 dX11_taught_71 (by decide) ?_
            exact ih20 j cn be (stF day w g) (by omega) (dn_F hT hcn) (dv_F (by omega) hT hbe) (by omega)
  exact loop20_7 _ 70 0 (-4) tr (Nat.le_refl _) (Nat.zero_add _) (fiD_N _ _ _).symm (Nat.lt_succ_self _)

set_option maxHeartbeats 4000000 in
set_option maxRecDepth 100000 in
theorem w_setter_bad (V : gV) (mm : Nat) (mtx : Nat) (mnu : Nat) (mrc : Nat) (mrw : Nat) (mrl : Nat) (mki : Nat) (mwa : Nat) (mle : Nat) (mno : Nat) (mtr : Nat) (mse : Nat) (mba : Nat) (mim : Nat) (msi : Nat) (mfo : Nat) (mor : Nat) (mbo : Nat) (mma : Nat) (mbm : Nat) (mso : Nat) (le_ : Int32) (po_ : Int32) (fa_ : Int32) (rcl_ : Int32) (rle_ : Int32) (cl_ : Int32) (ls_ : Int32) (ba_ : Int32) (km_ : Int32) (si_ : Int32) (fm_ : Int32) (v : Int32) (hbad : ¬ (v = 0 ∨ v = 1)) : Ki V yX11_setter cX11_setter 6 .int ({ frames := 1, cells := 0, slots := 0, locals := 22 }) [.ref mm, .int v] [(mm, .inr (11, [.int le_, .ref mtx, .int po_, .ref mnu, .int fa_, .int rcl_, .int rle_, .ref mrc, .ref mrw, .ref mrl, .int cl_, .ref mki, .ref mwa, .int ls_, .ref mle, .ref mno, .ref mtr, .ref mse, .ref mba, .int ba_, .ref mim, .int km_, .int si_, .ref msi, .ref mfo, .int fm_, .ref mor, .ref mbo, .ref mma, .ref mbm, .ref mso]))] (fun (r : Int32) (u : Unit) => r = -1) (fun u => [(mm, .inr (11, [.int le_, .ref mtx, .int po_, .ref mnu, .int fa_, .int rcl_, .int rle_, .ref mrc, .ref mrw, .ref mrl, .int cl_, .ref mki, .ref mwa, .int ls_, .ref mle, .ref mno, .ref mtr, .ref mse, .ref mba, .int ba_, .ref mim, .int km_, .int si_, .ref msi, .ref mfo, .int fm_, .ref mor, .ref mbo, .ref mma, .ref mbm, .ref mso]))]) := by
  refine Ki.of [some (.ref mm), some (.int v), none, none, none, none] (by decide) (Nat.le_of_ble_eq_true rfl) rfl rfl ?_
  intro Z X E
  have X : gX V Z RX11 cX11_setter 6 ({ frames := 1, cells := 0, slots := 0, locals := 22 }) := X
  refine g_iload_n X dX11_setter_0 rfl ?_
  refine g_iconst X (0) dX11_setter_1 (by decide) ?_
  refine g_iconst X (1) dX11_setter_2 (by decide) ?_
  refine g_callSi X (c_X11_in V v 0 1) mo_X11_in kl_X11_94 [] [0] rfl (by decide +kernel) rfl rfl (fun _ => Nat.le_of_ble_eq_true rfl) (As := [.int v, .int 0, .int 1]) (st := []) (cs' := (0, 0)) rfl rfl rfl dX11_setter_3 (fun r_5 u_1 hp_2 ws_4 hw_3 => ?_)
  obtain rfl : r_5 = inF v 0 1 := hp_2
  have hw_3x : ws_4 = [(mm, .inr (11, [.int le_, .ref mtx, .int po_, .ref mnu, .int fa_, .int rcl_, .int rle_, .ref mrc, .ref mrw, .ref mrl, .int cl_, .ref mki, .ref mwa, .int ls_, .ref mle, .ref mno, .ref mtr, .ref mse, .ref mba, .int ba_, .ref mim, .int km_, .int si_, .ref msi, .ref mfo, .int fm_, .ref mor, .ref mbo, .ref mma, .ref mbm, .ref mso]))] := hw_3.symm
  clear hw_3; subst hw_3x
  refine g_if_ne X 11 dX11_setter_6 (by decide) (fun c6_6 => absurd (inF_01 hbad) c6_6) (fun c6_6 => ?_)
  refine g_iconst X (-1) dX11_setter_9 (by decide) ?_
  exact g_iret X E dX11_setter_10 () (-1) (by first | rfl | (simp [c6_6]; done)) rfl

set_option maxHeartbeats 4000000 in
set_option maxRecDepth 100000 in
theorem w_setter_0 (V : gV) (mm : Nat) (mtx : Nat) (mnu : Nat) (mrc : Nat) (mrw : Nat) (mrl : Nat) (mki : Nat) (mwa : Nat) (mle : Nat) (mno : Nat) (mtr : Nat) (mse : Nat) (mba : Nat) (mim : Nat) (msi : Nat) (mfo : Nat) (mor : Nat) (mbo : Nat) (mma : Nat) (mbm : Nat) (mso : Nat) (le_ : Int32) (po_ : Int32) (fa_ : Int32) (rcl_ : Int32) (rle_ : Int32) (n : Nat) (ls_ : Int32) (ba_ : Int32) (km_ : Int32) (z : Nat) (fm_ : Int32) (k : Nat → Int32) (day : Int32) (w : Nat → Int32) (g : Nat → Int32) (tr : Nat → Int32) (rc : Nat → Nat) (rm : Nat → Int32) (hn : n ≤ 7) (hz : z ≤ 6) (hr : ∀ i, i < z → rc i < 7) : Ki V yX11_setter cX11_setter 6 .int ({ frames := 1, cells := 0, slots := 0, locals := 24 }) [.ref mm, .int 0] [(mm, .inr (11, [.int le_, .ref mtx, .int po_, .ref mnu, .int fa_, .int rcl_, .int rle_, .ref mrc, .ref mrw, .ref mrl, .int (nI n), .ref mki, .ref mwa, .int ls_, .ref mle, .ref mno, .ref mtr, .ref mse, .ref mba, .int ba_, .ref mim, .int km_, .int (nI z), .ref msi, .ref mfo, .int fm_, .ref mor, .ref mbo, .ref mma, .ref mbm, .ref mso])), (mki, .inl (V.2.2.1, 7, .inl k)), (mno, .inl (V.2.2.1, 15, .inl (stF day w g))), (mtr, .inl (V.2.2.1, 15, .inl tr)), (msi, .inl (V.2.2.1, 12, .inl (siF rc rm)))] (fun (r : Int32) (u : (Nat → Int32)) => r = nI (setF k n w z rc rm).1) (fun u => [(mm, .inr (11, [.int le_, .ref mtx, .int po_, .ref mnu, .int fa_, .int rcl_, .int rle_, .ref mrc, .ref mrw, .ref mrl, .int (nI n), .ref mki, .ref mwa, .int ls_, .ref mle, .ref mno, .ref mtr, .ref mse, .ref mba, .int ba_, .ref mim, .int km_, .int (nI z), .ref msi, .ref mfo, .int fm_, .ref mor, .ref mbo, .ref mma, .ref mbm, .ref mso])), (mki, .inl (V.2.2.1, 7, .inl k)), (mno, .inl (V.2.2.1, 15, .inl (stF day w g))), (mtr, .inl (V.2.2.1, 15, .inl u)), (msi, .inl (V.2.2.1, 12, .inl (siF rc rm)))]) := by
  refine Ki.of [some (.ref mm), some (.int 0), none, none, none, none] (by decide) (Nat.le_of_ble_eq_true rfl) rfl rfl ?_
  intro Z X E
  have X : gX V Z RX11 cX11_setter 6 ({ frames := 1, cells := 0, slots := 0, locals := 24 }) := X
  refine g_iload_n X dX11_setter_0 rfl ?_
  refine g_iconst X (0) dX11_setter_1 (by decide) ?_
  refine g_iconst X (1) dX11_setter_2 (by decide) ?_
  refine g_callSi X (c_X11_in V 0 0 1) mo_X11_in kl_X11_94 [] [0, 0, 0, 0, 0] rfl (by decide +kernel) rfl rfl (fun _ => Nat.le_of_ble_eq_true rfl) (As := [.int 0, .int 0, .int 1]) (st := []) (cs' := (0, 0)) rfl rfl rfl dX11_setter_3 (fun r_5 u_1 hp_2 ws_4 hw_3 => ?_)
  obtain rfl : r_5 = inF 0 0 1 := hp_2
  have hw_3x : ws_4 = [(mm, .inr (11, [.int le_, .ref mtx, .int po_, .ref mnu, .int fa_, .int rcl_, .int rle_, .ref mrc, .ref mrw, .ref mrl, .int (nI n), .ref mki, .ref mwa, .int ls_, .ref mle, .ref mno, .ref mtr, .ref mse, .ref mba, .int ba_, .ref mim, .int km_, .int (nI z), .ref msi, .ref mfo, .int fm_, .ref mor, .ref mbo, .ref mma, .ref mbm, .ref mso])), (mki, .inl (V.2.2.1, 7, .inl k)), (mno, .inl (V.2.2.1, 15, .inl (stF day w g))), (mtr, .inl (V.2.2.1, 15, .inl tr)), (msi, .inl (V.2.2.1, 12, .inl (siF rc rm)))] := hw_3.symm
  clear hw_3; subst hw_3x
  refine g_if_ne X 11 dX11_setter_6 (by decide) (fun c6_6 => ?_) (fun c6_6 => absurd c6_6 (by decide))
  refine g_iconst X (0) dX11_setter_11 (by decide) ?_
  refine g_istore_n X (L' := [some (.ref mm), some (.int 0), some (.int 0), none, none, none]) dX11_setter_12 (by decide) rfl rfl ?_
  refine g_bipush X (-4) dX11_setter_13 (by decide) ?_
  refine g_istore_n X (L' := [some (.ref mm), some (.int 0), some (.int 0), some (.int (-4)), none, none]) dX11_setter_15 (by decide) rfl rfl ?_
  refine g_bipush X (100) dX11_setter_16 (by decide) ?_
  refine g_toe (x' := nI 201 - 101) (by decide) ?_
  refine g_istore X (L' := [some (.ref mm), some (.int 0), some (.int 0), some (.int (-4)), some (.int (nI 201 - 101)), none]) dX11_setter_18 (by decide) rfl rfl ?_
  have loop20_7 : ∀ (d20 : Nat) (j : Nat) (cn : Nat) (be : Int32) (tr1 : Nat → Int32) (hj : j ≤ 201) (hcn : cn + cnt (setT k n w z rc rm) j = cnt (setT k n w z rc rm) 201) (hbe : be = fiD (setT k n w z rc rm) (fun i => nI i - 100 + 100) 201 j), j < d20 → G V Z 6 (0, 0) [(mm, .inr (11, [.int le_, .ref mtx, .int po_, .ref mnu, .int fa_, .int rcl_, .int rle_, .ref mrc, .ref mrw, .ref mrl, .int (nI n), .ref mki, .ref mwa, .int ls_, .ref mle, .ref mno, .ref mtr, .ref mse, .ref mba, .int ba_, .ref mim, .int km_, .int (nI z), .ref msi, .ref mfo, .int fm_, .ref mor, .ref mbo, .ref mma, .ref mbm, .ref mso])), (mki, .inl (V.2.2.1, 7, .inl k)), (mno, .inl (V.2.2.1, 15, .inl (stF day w g))), (mtr, .inl (V.2.2.1, 15, .inl tr1)), (msi, .inl (V.2.2.1, 12, .inl (siF rc rm)))] 20 [some (.ref mm), some (.int 0), some (.int (nI cn)), some (.int be), some (.int (nI j - 101)), none] [] := by
    intro d20
    induction d20 with
    | zero => intro j cn be tr1 hj hcn hbe hmu; exact absurd hmu (Nat.not_lt_zero _)
    | succ d20 ih20 =>
      intro j cn be tr1 hj hcn hbe hmu
      have hcl : cn ≤ 201 := by have := cnt_le (setT k n w z rc rm) 201; omega
      cases j with
        | zero =>
          refine g_cast (L' := [some (.ref mm), some (.int 0), some (.int (nI cn)), some (.int be), some (.int (-101)), none]) ?_ rfl (by rw [show nI 0 - 101 = -101 from by decide]) rfl
          refine g_iload X dX11_setter_20 rfl ?_
          refine g_bipush X (-100) dX11_setter_22 (by decide) ?_
          refine g_icmp_lt X 118 dX11_setter_24 (by decide) (fun c24_8 => ?_) (fun c24_8 => absurd (by decide) c24_8)
          refine g_iload_n X dX11_setter_118 rfl ?_
          refine g_if_ne X 126 dX11_setter_119 (by decide) (fun c119_9 => absurd (by decide) c119_9) (fun c119_9 => ?_)
          refine g_iload_n X dX11_setter_122 rfl ?_
          refine g_goto X 127 dX11_setter_123 (by decide) ?_
          exact g_iret X E dX11_setter_127 tr1 (nI cn) (by rw [set_eq]; exact congrArg nI hcn) rfl
        | succ j =>
          refine g_cast (L' := [some (.ref mm), some (.int 0), some (.int (nI cn)), some (.int be), some (.int (nI j - 100)), none]) ?_ rfl (by rw [show nI (j + 1) - 101 = nI j - 100 from set_pred j]) rfl
          refine g_iload X dX11_setter_20 rfl ?_
          refine g_bipush X (-100) dX11_setter_22 (by decide) ?_
          refine g_icmp_lt X 118 dX11_setter_24 (by decide) (fun c24_10 => absurd c24_10 (set_nlt j (by omega))) (fun c24_10 => ?_)
          refine g_aload_n X dX11_setter_27 rfl ?_
          refine g_get X uwX11 0 rfl rfl 15 (by decide) kl_X11_34 rfl rfl gwX11 dX11_setter_28 ?_
          refine g_iconst X (0) dX11_setter_31 (by decide) ?_
          refine g_aload_n X dX11_setter_32 rfl ?_
          refine g_get X uwX11 0 rfl rfl 16 (by decide) kl_X11_37 rfl rfl gwX11 dX11_setter_33 ?_
          refine g_iconst X (0) dX11_setter_36 (by decide) ?_
          refine g_callSv X (c_X11_copy V mno 15 (stF day w g) mtr 15 tr1 0 0 (by omega) (by omega) (by omega) (by omega)) mo_X11_copy kl_X11_165 [2, 3] [0, 0, 1, 2, 0] rfl (by decide +kernel) rfl rfl (fun _ => Nat.le_of_ble_eq_true rfl) (As := [.ref mno, .int 0, .ref mtr, .int 0]) (st := []) (cs' := (0, 0)) rfl rfl rfl dX11_setter_37 (fun u_11 hp_12 ws_14 hw_13 => ?_)
          have hw_13x : ws_14 = [(mm, .inr (11, [.int le_, .ref mtx, .int po_, .ref mnu, .int fa_, .int rcl_, .int rle_, .ref mrc, .ref mrw, .ref mrl, .int (nI n), .ref mki, .ref mwa, .int ls_, .ref mle, .ref mno, .ref mtr, .ref mse, .ref mba, .int ba_, .ref mim, .int km_, .int (nI z), .ref msi, .ref mfo, .int fm_, .ref mor, .ref mbo, .ref mma, .ref mbm, .ref mso])), (mki, .inl (V.2.2.1, 7, .inl k)), (mno, .inl (V.2.2.1, 15, .inl (stF day w g))), (mtr, .inl (V.2.2.1, 15, .inl (cpM 0 0 (stF day w g) tr1))), (msi, .inl (V.2.2.1, 12, .inl (siF rc rm)))] := hw_13.symm
          clear hw_13; subst hw_13x
          refine g_arr 3 (stF day w g) rfl cpM_0 (ws' := [(mm, .inr (11, [.int le_, .ref mtx, .int po_, .ref mnu, .int fa_, .int rcl_, .int rle_, .ref mrc, .ref mrw, .ref mrl, .int (nI n), .ref mki, .ref mwa, .int ls_, .ref mle, .ref mno, .ref mtr, .ref mse, .ref mba, .int ba_, .ref mim, .int km_, .int (nI z), .ref msi, .ref mfo, .int fm_, .ref mor, .ref mbo, .ref mma, .ref mbm, .ref mso])), (mki, .inl (V.2.2.1, 7, .inl k)), (mno, .inl (V.2.2.1, 15, .inl (stF day w g))), (mtr, .inl (V.2.2.1, 15, .inl (stF day w g))), (msi, .inl (V.2.2.1, 12, .inl (siF rc rm)))]) rfl ?_
          refine g_iconst X (0) dX11_setter_40 (by decide) ?_
          refine g_istore X (L' := [some (.ref mm), some (.int 0), some (.int (nI cn)), some (.int be), some (.int (nI j - 100)), some (.int 0)]) dX11_setter_41 (by decide) rfl rfl ?_
          have loop43_16 : ∀ (d43 c : Nat), c + d43 = n → ∀ (wi : Nat → Int32) (hwi : wi = seeF k c (nI j - 100) w), G V Z 6 (0, 0) [(mm, .inr (11, [.int le_, .ref mtx, .int po_, .ref mnu, .int fa_, .int rcl_, .int rle_, .ref mrc, .ref mrw, .ref mrl, .int (nI n), .ref mki, .ref mwa, .int ls_, .ref mle, .ref mno, .ref mtr, .ref mse, .ref mba, .int ba_, .ref mim, .int km_, .int (nI z), .ref msi, .ref mfo, .int fm_, .ref mor, .ref mbo, .ref mma, .ref mbm, .ref mso])), (mki, .inl (V.2.2.1, 7, .inl k)), (mno, .inl (V.2.2.1, 15, .inl (stF day w g))), (mtr, .inl (V.2.2.1, 15, .inl (stF day wi g))), (msi, .inl (V.2.2.1, 12, .inl (siF rc rm)))] 43 [some (.ref mm), some (.int 0), some (.int (nI cn)), some (.int be), some (.int (nI j - 100)), some (.int (nI c))] [] := by
            intro d43
            induction d43 with
            | zero =>
              intro c hc wi hwi
              refine g_iload X dX11_setter_43 rfl ?_
              refine g_aload_n X dX11_setter_45 rfl ?_
              refine g_get X uwX11 0 rfl rfl 10 (by decide) kl_X11_91 rfl rfl gwX11 dX11_setter_46 ?_
              refine g_icmp_ge X 92 dX11_setter_49 (by decide) (fun c49_17 => ?_) (fun c49_17 => absurd (tge (a := c) (b := n) (by omega) (by omega) (by omega)) c49_17)
              refine g_aload_n X dX11_setter_92 rfl ?_
              refine g_aload_n X dX11_setter_93 rfl ?_
              refine g_get X uwX11 0 rfl rfl 16 (by decide) kl_X11_37 rfl rfl gwX11 dX11_setter_94 ?_
              refine g_callVi X (c_X11_isSo V mm mtx mnu mrc mrw mrl mki mwa mle mno mtr mse mba mim msi mfo mor mbo mma mbm mso le_ po_ fa_ rcl_ rle_ (nI n) ls_ ba_ km_ z fm_ rc rm day wi g mtr (by omega) (by omega)) mo_X11_isSo kl_X11_199 [0, 4, 3] [1, 0, 0, 3, 2] rfl (by decide +kernel) rfl rfl (fun _ => Nat.le_of_ble_eq_true rfl) 0 11 rfl rfl (As := [.ref mtr]) (st := []) (cs' := (0, 0)) rfl rfl rfl rfl dX11_setter_97 (fun r_22 u_18 hp_19 ws_21 hw_20 => ?_)
              obtain rfl : r_22 = fitF z rc rm wi := hp_19
              have hw_20x : ws_21 = [(mm, .inr (11, [.int le_, .ref mtx, .int po_, .ref mnu, .int fa_, .int rcl_, .int rle_, .ref mrc, .ref mrw, .ref mrl, .int (nI n), .ref mki, .ref mwa, .int ls_, .ref mle, .ref mno, .ref mtr, .ref mse, .ref mba, .int ba_, .ref mim, .int km_, .int (nI z), .ref msi, .ref mfo, .int fm_, .ref mor, .ref mbo, .ref mma, .ref mbm, .ref mso])), (mki, .inl (V.2.2.1, 7, .inl k)), (mno, .inl (V.2.2.1, 15, .inl (stF day w g))), (mtr, .inl (V.2.2.1, 15, .inl (stF day wi g))), (msi, .inl (V.2.2.1, 12, .inl (siF rc rm)))] := hw_20.symm
              clear hw_20; subst hw_20x
              refine g_if_eq X 112 dX11_setter_100 (by decide) (fun c100_23 => ?_) (fun c100_23 => ?_)
              · have hT : setT k n w z rc rm j = false := decide_eq_false (fun q => by have e : c = n := (by omega); subst e; rw [← hwi] at q; exact q c100_23)
                refine g_iinc X (v := nI j - 101) (L' := [some (.ref mm), some (.int 0), some (.int (nI cn)), some (.int be), some (.int (nI j - 101)), some (.int (nI c))]) dX11_setter_112 rfl (set_dn j) (by decide) rfl rfl ?_
                refine g_goto X 20 dX11_setter_115 (by decide) ?_
                refine g_sub (L' := [some (.ref mm), some (.int 0), some (.int (nI cn)), some (.int be), some (.int (nI j - 101)), none]) ⟨rfl, ⟨rfl, ⟨rfl, ⟨rfl, ⟨rfl, trivial⟩⟩⟩⟩⟩ ?_
                exact ih20 j cn be (stF day wi g) (by omega) (dn_F hT hcn) (dv_F (by omega) hT hbe) (by omega)
              · have hT : setT k n w z rc rm j = true := decide_eq_true (by have e : c = n := (by omega); subst e; rw [← hwi]; exact c100_23)
                refine g_iinc X (v := nI (cn + 1)) (L' := [some (.ref mm), some (.int 0), some (.int (nI (cn + 1))), some (.int be), some (.int (nI j - 100)), some (.int (nI c))]) dX11_setter_103 rfl (nI_addk (by decide)) (by decide) rfl rfl ?_
                refine g_iload X dX11_setter_106 rfl ?_
                refine g_bipush X (100) dX11_setter_108 (by decide) ?_
                refine g_iadd X dX11_setter_110 ?_
                refine g_istore_n X (L' := [some (.ref mm), some (.int 0), some (.int (nI (cn + 1))), some (.int ((nI j - 100) + 100)), some (.int (nI j - 100)), some (.int (nI c))]) dX11_setter_111 (by decide) rfl rfl ?_
                refine g_iinc X (v := nI j - 101) (L' := [some (.ref mm), some (.int 0), some (.int (nI (cn + 1))), some (.int ((nI j - 100) + 100)), some (.int (nI j - 101)), some (.int (nI c))]) dX11_setter_112 rfl (set_dn j) (by decide) rfl rfl ?_
                refine g_goto X 20 dX11_setter_115 (by decide) ?_
                refine g_sub (L' := [some (.ref mm), some (.int 0), some (.int (nI (cn + 1))), some (.int ((nI j - 100) + 100)), some (.int (nI j - 101)), none]) ⟨rfl, ⟨rfl, ⟨rfl, ⟨rfl, ⟨rfl, trivial⟩⟩⟩⟩⟩ ?_
                exact ih20 j (cn + 1) ((nI j - 100) + 100) (stF day wi g) (by omega) (dn_T hT hcn) (dv_T (v := fun i => nI i - 100 + 100) (by omega) hT) (by omega)
            | succ d43 ih43 =>
              intro c hc wi hwi
              refine g_iload X dX11_setter_43 rfl ?_
              refine g_aload_n X dX11_setter_45 rfl ?_
              refine g_get X uwX11 0 rfl rfl 10 (by decide) kl_X11_91 rfl rfl gwX11 dX11_setter_46 ?_
              refine g_icmp_ge X 92 dX11_setter_49 (by decide) (fun c49_24 => absurd c49_24 (fge (a := c) (b := n) (by omega) (by omega) (by omega))) (fun c49_24 => ?_)
              refine g_aload_n X dX11_setter_52 rfl ?_
              refine g_get X uwX11 0 rfl rfl 16 (by decide) kl_X11_37 rfl rfl gwX11 dX11_setter_53 ?_
              refine g_iconst X (1) dX11_setter_56 (by decide) ?_
              refine g_iload X dX11_setter_57 rfl ?_
              refine g_iadd X dX11_setter_59 ?_
              refine g_toe (x' := nI (1 + c)) (nI_add' rfl rfl) ?_
              refine g_aload_n X dX11_setter_60 rfl ?_
              refine g_get X uwX11 0 rfl rfl 11 (by decide) kl_X11_25 rfl rfl gwX11 dX11_setter_61 ?_
              refine g_iload X dX11_setter_64 rfl ?_
              refine g_iald' X 1 rfl (i := c) rfl (by omega) (by omega) dX11_setter_66 ?_
              refine g_iconst X (3) dX11_setter_67 (by decide) ?_
              refine g_icmp_ne X 83 dX11_setter_68 (by decide) (fun c68_25 => ?_) (fun c68_25 => ?_)
              · refine g_iload X dX11_setter_83 rfl ?_
                refine g_iast' X 3 rfl (i := (1 + c)) rfl (by omega) (by omega) (ws' := [(mm, .inr (11, [.int le_, .ref mtx, .int po_, .ref mnu, .int fa_, .int rcl_, .int rle_, .ref mrc, .ref mrw, .ref mrl, .int (nI n), .ref mki, .ref mwa, .int ls_, .ref mle, .ref mno, .ref mtr, .ref mse, .ref mba, .int ba_, .ref mim, .int km_, .int (nI z), .ref msi, .ref mfo, .int fm_, .ref mor, .ref mbo, .ref mma, .ref mbm, .ref mso])), (mki, .inl (V.2.2.1, 7, .inl k)), (mno, .inl (V.2.2.1, 15, .inl (stF day w g))), (mtr, .inl (V.2.2.1, 15, .inl (upd (stF day wi g) (1 + c) (nI j - 100)))), (msi, .inl (V.2.2.1, 12, .inl (siF rc rm)))]) rfl dX11_setter_85 ?_
                refine g_arr 3 (stF day (upd wi c (nI j - 100)) g) rfl (stF_uw _ _ _ _ c (by omega)) (ws' := [(mm, .inr (11, [.int le_, .ref mtx, .int po_, .ref mnu, .int fa_, .int rcl_, .int rle_, .ref mrc, .ref mrw, .ref mrl, .int (nI n), .ref mki, .ref mwa, .int ls_, .ref mle, .ref mno, .ref mtr, .ref mse, .ref mba, .int ba_, .ref mim, .int km_, .int (nI z), .ref msi, .ref mfo, .int fm_, .ref mor, .ref mbo, .ref mma, .ref mbm, .ref mso])), (mki, .inl (V.2.2.1, 7, .inl k)), (mno, .inl (V.2.2.1, 15, .inl (stF day w g))), (mtr, .inl (V.2.2.1, 15, .inl (stF day (upd wi c (nI j - 100)) g))), (msi, .inl (V.2.2.1, 12, .inl (siF rc rm)))]) rfl ?_
                refine g_iinc X (v := nI (c + 1)) (L' := [some (.ref mm), some (.int 0), some (.int (nI cn)), some (.int be), some (.int (nI j - 100)), some (.int (nI (c + 1)))]) dX11_setter_86 rfl (nI_addk (by decide)) (by decide) rfl rfl ?_
                refine g_goto X 43 dX11_setter_89 (by decide) ?_
                exact ih43 (c + 1) (by omega) (upd wi c (nI j - 100)) (see_1 (by omega) hwi c68_25)
              · refine g_aload_n X dX11_setter_71 rfl ?_
                refine g_get X uwX11 0 rfl rfl 15 (by decide) kl_X11_34 rfl rfl gwX11 dX11_setter_72 ?_
                refine g_iconst X (1) dX11_setter_75 (by decide) ?_
                refine g_iload X dX11_setter_76 rfl ?_
                refine g_iadd X dX11_setter_78 ?_
                refine g_toe (x' := nI (1 + c)) (nI_add' rfl rfl) ?_
                refine g_iald' X 2 rfl (i := (1 + c)) rfl (by omega) (by omega) dX11_setter_79 ?_
                refine g_toe (x' := w c) (stF_w _ _ _ c (by omega)) ?_
                refine g_goto X 85 dX11_setter_80 (by decide) ?_
                refine g_iast' X 3 rfl (i := (1 + c)) rfl (by omega) (by omega) (ws' := [(mm, .inr (11, [.int le_, .ref mtx, .int po_, .ref mnu, .int fa_, .int rcl_, .int rle_, .ref mrc, .ref mrw, .ref mrl, .int (nI n), .ref mki, .ref mwa, .int ls_, .ref mle, .ref mno, .ref mtr, .ref mse, .ref mba, .int ba_, .ref mim, .int km_, .int (nI z), .ref msi, .ref mfo, .int fm_, .ref mor, .ref mbo, .ref mma, .ref mbm, .ref mso])), (mki, .inl (V.2.2.1, 7, .inl k)), (mno, .inl (V.2.2.1, 15, .inl (stF day w g))), (mtr, .inl (V.2.2.1, 15, .inl (upd (stF day wi g) (1 + c) (w c)))), (msi, .inl (V.2.2.1, 12, .inl (siF rc rm)))]) rfl dX11_setter_85 ?_
                refine g_arr 3 (stF day (upd wi c (w c)) g) rfl (stF_uw _ _ _ _ c (by omega)) (ws' := [(mm, .inr (11, [.int le_, .ref mtx, .int po_, .ref mnu, .int fa_, .int rcl_, .int rle_, .ref mrc, .ref mrw, .ref mrl, .int (nI n), .ref mki, .ref mwa, .int ls_, .ref mle, .ref mno, .ref mtr, .ref mse, .ref mba, .int ba_, .ref mim, .int km_, .int (nI z), .ref msi, .ref mfo, .int fm_, .ref mor, .ref mbo, .ref mma, .ref mbm, .ref mso])), (mki, .inl (V.2.2.1, 7, .inl k)), (mno, .inl (V.2.2.1, 15, .inl (stF day w g))), (mtr, .inl (V.2.2.1, 15, .inl (stF day (upd wi c (w c)) g))), (msi, .inl (V.2.2.1, 12, .inl (siF rc rm)))]) rfl ?_
                refine g_iinc X (v := nI (c + 1)) (L' := [some (.ref mm), some (.int 0), some (.int (nI cn)), some (.int be), some (.int (nI j - 100)), some (.int (nI (c + 1)))]) dX11_setter_86 rfl (nI_addk (by decide)) (by decide) rfl rfl ?_
                refine g_goto X 43 dX11_setter_89 (by decide) ?_
                exact ih43 (c + 1) (by omega) (upd wi c (w c)) (see_0 hwi c68_25)
          exact loop43_16 n 0 (by omega) w rfl
  exact loop20_7 _ 201 0 (-4) tr (Nat.le_refl _) (Nat.zero_add _) (fiD_N _ _ _).symm (Nat.lt_succ_self _)

set_option maxHeartbeats 4000000 in
set_option maxRecDepth 100000 in
theorem w_setter_1 (V : gV) (mm : Nat) (mtx : Nat) (mnu : Nat) (mrc : Nat) (mrw : Nat) (mrl : Nat) (mki : Nat) (mwa : Nat) (mle : Nat) (mno : Nat) (mtr : Nat) (mse : Nat) (mba : Nat) (mim : Nat) (msi : Nat) (mfo : Nat) (mor : Nat) (mbo : Nat) (mma : Nat) (mbm : Nat) (mso : Nat) (le_ : Int32) (po_ : Int32) (fa_ : Int32) (rcl_ : Int32) (rle_ : Int32) (n : Nat) (ls_ : Int32) (ba_ : Int32) (km_ : Int32) (z : Nat) (fm_ : Int32) (k : Nat → Int32) (day : Int32) (w : Nat → Int32) (g : Nat → Int32) (tr : Nat → Int32) (rc : Nat → Nat) (rm : Nat → Int32) (hn : n ≤ 7) (hz : z ≤ 6) (hr : ∀ i, i < z → rc i < 7) : Ki V yX11_setter cX11_setter 6 .int ({ frames := 1, cells := 0, slots := 0, locals := 24 }) [.ref mm, .int 1] [(mm, .inr (11, [.int le_, .ref mtx, .int po_, .ref mnu, .int fa_, .int rcl_, .int rle_, .ref mrc, .ref mrw, .ref mrl, .int (nI n), .ref mki, .ref mwa, .int ls_, .ref mle, .ref mno, .ref mtr, .ref mse, .ref mba, .int ba_, .ref mim, .int km_, .int (nI z), .ref msi, .ref mfo, .int fm_, .ref mor, .ref mbo, .ref mma, .ref mbm, .ref mso])), (mki, .inl (V.2.2.1, 7, .inl k)), (mno, .inl (V.2.2.1, 15, .inl (stF day w g))), (mtr, .inl (V.2.2.1, 15, .inl tr)), (msi, .inl (V.2.2.1, 12, .inl (siF rc rm)))] (fun (r : Int32) (u : (Nat → Int32)) => r = (setF k n w z rc rm).2) (fun u => [(mm, .inr (11, [.int le_, .ref mtx, .int po_, .ref mnu, .int fa_, .int rcl_, .int rle_, .ref mrc, .ref mrw, .ref mrl, .int (nI n), .ref mki, .ref mwa, .int ls_, .ref mle, .ref mno, .ref mtr, .ref mse, .ref mba, .int ba_, .ref mim, .int km_, .int (nI z), .ref msi, .ref mfo, .int fm_, .ref mor, .ref mbo, .ref mma, .ref mbm, .ref mso])), (mki, .inl (V.2.2.1, 7, .inl k)), (mno, .inl (V.2.2.1, 15, .inl (stF day w g))), (mtr, .inl (V.2.2.1, 15, .inl u)), (msi, .inl (V.2.2.1, 12, .inl (siF rc rm)))]) := by
  refine Ki.of [some (.ref mm), some (.int 1), none, none, none, none] (by decide) (Nat.le_of_ble_eq_true rfl) rfl rfl ?_
  intro Z X E
  have X : gX V Z RX11 cX11_setter 6 ({ frames := 1, cells := 0, slots := 0, locals := 24 }) := X
  refine g_iload_n X dX11_setter_0 rfl ?_
  refine g_iconst X (0) dX11_setter_1 (by decide) ?_
  refine g_iconst X (1) dX11_setter_2 (by decide) ?_
  refine g_callSi X (c_X11_in V 1 0 1) mo_X11_in kl_X11_94 [] [0, 0, 0, 0, 0] rfl (by decide +kernel) rfl rfl (fun _ => Nat.le_of_ble_eq_true rfl) (As := [.int 1, .int 0, .int 1]) (st := []) (cs' := (0, 0)) rfl rfl rfl dX11_setter_3 (fun r_5 u_1 hp_2 ws_4 hw_3 => ?_)
  obtain rfl : r_5 = inF 1 0 1 := hp_2
  have hw_3x : ws_4 = [(mm, .inr (11, [.int le_, .ref mtx, .int po_, .ref mnu, .int fa_, .int rcl_, .int rle_, .ref mrc, .ref mrw, .ref mrl, .int (nI n), .ref mki, .ref mwa, .int ls_, .ref mle, .ref mno, .ref mtr, .ref mse, .ref mba, .int ba_, .ref mim, .int km_, .int (nI z), .ref msi, .ref mfo, .int fm_, .ref mor, .ref mbo, .ref mma, .ref mbm, .ref mso])), (mki, .inl (V.2.2.1, 7, .inl k)), (mno, .inl (V.2.2.1, 15, .inl (stF day w g))), (mtr, .inl (V.2.2.1, 15, .inl tr)), (msi, .inl (V.2.2.1, 12, .inl (siF rc rm)))] := hw_3.symm
  clear hw_3; subst hw_3x
  refine g_if_ne X 11 dX11_setter_6 (by decide) (fun c6_6 => ?_) (fun c6_6 => absurd c6_6 (by decide))
  refine g_iconst X (0) dX11_setter_11 (by decide) ?_
  refine g_istore_n X (L' := [some (.ref mm), some (.int 1), some (.int 0), none, none, none]) dX11_setter_12 (by decide) rfl rfl ?_
  refine g_bipush X (-4) dX11_setter_13 (by decide) ?_
  refine g_istore_n X (L' := [some (.ref mm), some (.int 1), some (.int 0), some (.int (-4)), none, none]) dX11_setter_15 (by decide) rfl rfl ?_
  refine g_bipush X (100) dX11_setter_16 (by decide) ?_
  refine g_toe (x' := nI 201 - 101) (by decide) ?_
  refine g_istore X (L' := [some (.ref mm), some (.int 1), some (.int 0), some (.int (-4)), some (.int (nI 201 - 101)), none]) dX11_setter_18 (by decide) rfl rfl ?_
  have loop20_7 : ∀ (d20 : Nat) (j : Nat) (cn : Nat) (be : Int32) (tr1 : Nat → Int32) (hj : j ≤ 201) (hcn : cn + cnt (setT k n w z rc rm) j = cnt (setT k n w z rc rm) 201) (hbe : be = fiD (setT k n w z rc rm) (fun i => nI i - 100 + 100) 201 j), j < d20 → G V Z 6 (0, 0) [(mm, .inr (11, [.int le_, .ref mtx, .int po_, .ref mnu, .int fa_, .int rcl_, .int rle_, .ref mrc, .ref mrw, .ref mrl, .int (nI n), .ref mki, .ref mwa, .int ls_, .ref mle, .ref mno, .ref mtr, .ref mse, .ref mba, .int ba_, .ref mim, .int km_, .int (nI z), .ref msi, .ref mfo, .int fm_, .ref mor, .ref mbo, .ref mma, .ref mbm, .ref mso])), (mki, .inl (V.2.2.1, 7, .inl k)), (mno, .inl (V.2.2.1, 15, .inl (stF day w g))), (mtr, .inl (V.2.2.1, 15, .inl tr1)), (msi, .inl (V.2.2.1, 12, .inl (siF rc rm)))] 20 [some (.ref mm), some (.int 1), some (.int (nI cn)), some (.int be), some (.int (nI j - 101)), none] [] := by
    intro d20
    induction d20 with
    | zero => intro j cn be tr1 hj hcn hbe hmu; exact absurd hmu (Nat.not_lt_zero _)
    | succ d20 ih20 =>
      intro j cn be tr1 hj hcn hbe hmu
      have hcl : cn ≤ 201 := by have := cnt_le (setT k n w z rc rm) 201; omega
      cases j with
        | zero =>
          refine g_cast (L' := [some (.ref mm), some (.int 1), some (.int (nI cn)), some (.int be), some (.int (-101)), none]) ?_ rfl (by rw [show nI 0 - 101 = -101 from by decide]) rfl
          refine g_iload X dX11_setter_20 rfl ?_
          refine g_bipush X (-100) dX11_setter_22 (by decide) ?_
          refine g_icmp_lt X 118 dX11_setter_24 (by decide) (fun c24_8 => ?_) (fun c24_8 => absurd (by decide) c24_8)
          refine g_iload_n X dX11_setter_118 rfl ?_
          refine g_if_ne X 126 dX11_setter_119 (by decide) (fun c119_9 => ?_) (fun c119_9 => absurd c119_9 (by decide))
          refine g_iload_n X dX11_setter_126 rfl ?_
          exact g_iret X E dX11_setter_127 tr1 be (by rw [set_eq]; exact hbe) rfl
        | succ j =>
          refine g_cast (L' := [some (.ref mm), some (.int 1), some (.int (nI cn)), some (.int be), some (.int (nI j - 100)), none]) ?_ rfl (by rw [show nI (j + 1) - 101 = nI j - 100 from set_pred j]) rfl
          refine g_iload X dX11_setter_20 rfl ?_
          refine g_bipush X (-100) dX11_setter_22 (by decide) ?_
          refine g_icmp_lt X 118 dX11_setter_24 (by decide) (fun c24_10 => absurd c24_10 (set_nlt j (by omega))) (fun c24_10 => ?_)
          refine g_aload_n X dX11_setter_27 rfl ?_
          refine g_get X uwX11 0 rfl rfl 15 (by decide) kl_X11_34 rfl rfl gwX11 dX11_setter_28 ?_
          refine g_iconst X (0) dX11_setter_31 (by decide) ?_
          refine g_aload_n X dX11_setter_32 rfl ?_
          refine g_get X uwX11 0 rfl rfl 16 (by decide) kl_X11_37 rfl rfl gwX11 dX11_setter_33 ?_
          refine g_iconst X (0) dX11_setter_36 (by decide) ?_
          refine g_callSv X (c_X11_copy V mno 15 (stF day w g) mtr 15 tr1 0 0 (by omega) (by omega) (by omega) (by omega)) mo_X11_copy kl_X11_165 [2, 3] [0, 0, 1, 2, 0] rfl (by decide +kernel) rfl rfl (fun _ => Nat.le_of_ble_eq_true rfl) (As := [.ref mno, .int 0, .ref mtr, .int 0]) (st := []) (cs' := (0, 0)) rfl rfl rfl dX11_setter_37 (fun u_11 hp_12 ws_14 hw_13 => ?_)
          have hw_13x : ws_14 = [(mm, .inr (11, [.int le_, .ref mtx, .int po_, .ref mnu, .int fa_, .int rcl_, .int rle_, .ref mrc, .ref mrw, .ref mrl, .int (nI n), .ref mki, .ref mwa, .int ls_, .ref mle, .ref mno, .ref mtr, .ref mse, .ref mba, .int ba_, .ref mim, .int km_, .int (nI z), .ref msi, .ref mfo, .int fm_, .ref mor, .ref mbo, .ref mma, .ref mbm, .ref mso])), (mki, .inl (V.2.2.1, 7, .inl k)), (mno, .inl (V.2.2.1, 15, .inl (stF day w g))), (mtr, .inl (V.2.2.1, 15, .inl (cpM 0 0 (stF day w g) tr1))), (msi, .inl (V.2.2.1, 12, .inl (siF rc rm)))] := hw_13.symm
          clear hw_13; subst hw_13x
          refine g_arr 3 (stF day w g) rfl cpM_0 (ws' := [(mm, .inr (11, [.int le_, .ref mtx, .int po_, .ref mnu, .int fa_, .int rcl_, .int rle_, .ref mrc, .ref mrw, .ref mrl, .int (nI n), .ref mki, .ref mwa, .int ls_, .ref mle, .ref mno, .ref mtr, .ref mse, .ref mba, .int ba_, .ref mim, .int km_, .int (nI z), .ref msi, .ref mfo, .int fm_, .ref mor, .ref mbo, .ref mma, .ref mbm, .ref mso])), (mki, .inl (V.2.2.1, 7, .inl k)), (mno, .inl (V.2.2.1, 15, .inl (stF day w g))), (mtr, .inl (V.2.2.1, 15, .inl (stF day w g))), (msi, .inl (V.2.2.1, 12, .inl (siF rc rm)))]) rfl ?_
          refine g_iconst X (0) dX11_setter_40 (by decide) ?_
          refine g_istore X (L' := [some (.ref mm), some (.int 1), some (.int (nI cn)), some (.int be), some (.int (nI j - 100)), some (.int 0)]) dX11_setter_41 (by decide) rfl rfl ?_
          have loop43_16 : ∀ (d43 c : Nat), c + d43 = n → ∀ (wi : Nat → Int32) (hwi : wi = seeF k c (nI j - 100) w), G V Z 6 (0, 0) [(mm, .inr (11, [.int le_, .ref mtx, .int po_, .ref mnu, .int fa_, .int rcl_, .int rle_, .ref mrc, .ref mrw, .ref mrl, .int (nI n), .ref mki, .ref mwa, .int ls_, .ref mle, .ref mno, .ref mtr, .ref mse, .ref mba, .int ba_, .ref mim, .int km_, .int (nI z), .ref msi, .ref mfo, .int fm_, .ref mor, .ref mbo, .ref mma, .ref mbm, .ref mso])), (mki, .inl (V.2.2.1, 7, .inl k)), (mno, .inl (V.2.2.1, 15, .inl (stF day w g))), (mtr, .inl (V.2.2.1, 15, .inl (stF day wi g))), (msi, .inl (V.2.2.1, 12, .inl (siF rc rm)))] 43 [some (.ref mm), some (.int 1), some (.int (nI cn)), some (.int be), some (.int (nI j - 100)), some (.int (nI c))] [] := by
            intro d43
            induction d43 with
            | zero =>
              intro c hc wi hwi
              refine g_iload X dX11_setter_43 rfl ?_
              refine g_aload_n X dX11_setter_45 rfl ?_
              refine g_get X uwX11 0 rfl rfl 10 (by decide) kl_X11_91 rfl rfl gwX11 dX11_setter_46 ?_
              refine g_icmp_ge X 92 dX11_setter_49 (by decide) (fun c49_17 => ?_) (fun c49_17 => absurd (tge (a := c) (b := n) (by omega) (by omega) (by omega)) c49_17)
              refine g_aload_n X dX11_setter_92 rfl ?_
              refine g_aload_n X dX11_setter_93 rfl ?_
              refine g_get X uwX11 0 rfl rfl 16 (by decide) kl_X11_37 rfl rfl gwX11 dX11_setter_94 ?_
              refine g_callVi X (c_X11_isSo V mm mtx mnu mrc mrw mrl mki mwa mle mno mtr mse mba mim msi mfo mor mbo mma mbm mso le_ po_ fa_ rcl_ rle_ (nI n) ls_ ba_ km_ z fm_ rc rm day wi g mtr (by omega) (by omega)) mo_X11_isSo kl_X11_199 [0, 4, 3] [1, 0, 0, 3, 2] rfl (by decide +kernel) rfl rfl (fun _ => Nat.le_of_ble_eq_true rfl) 0 11 rfl rfl (As := [.ref mtr]) (st := []) (cs' := (0, 0)) rfl rfl rfl rfl dX11_setter_97 (fun r_22 u_18 hp_19 ws_21 hw_20 => ?_)
              obtain rfl : r_22 = fitF z rc rm wi := hp_19
              have hw_20x : ws_21 = [(mm, .inr (11, [.int le_, .ref mtx, .int po_, .ref mnu, .int fa_, .int rcl_, .int rle_, .ref mrc, .ref mrw, .ref mrl, .int (nI n), .ref mki, .ref mwa, .int ls_, .ref mle, .ref mno, .ref mtr, .ref mse, .ref mba, .int ba_, .ref mim, .int km_, .int (nI z), .ref msi, .ref mfo, .int fm_, .ref mor, .ref mbo, .ref mma, .ref mbm, .ref mso])), (mki, .inl (V.2.2.1, 7, .inl k)), (mno, .inl (V.2.2.1, 15, .inl (stF day w g))), (mtr, .inl (V.2.2.1, 15, .inl (stF day wi g))), (msi, .inl (V.2.2.1, 12, .inl (siF rc rm)))] := hw_20.symm
              clear hw_20; subst hw_20x
              refine g_if_eq X 112 dX11_setter_100 (by decide) (fun c100_23 => ?_) (fun c100_23 => ?_)
              · have hT : setT k n w z rc rm j = false := decide_eq_false (fun q => by have e : c = n := (by omega); subst e; rw [← hwi] at q; exact q c100_23)
                refine g_iinc X (v := nI j - 101) (L' := [some (.ref mm), some (.int 1), some (.int (nI cn)), some (.int be), some (.int (nI j - 101)), some (.int (nI c))]) dX11_setter_112 rfl (set_dn j) (by decide) rfl rfl ?_
                refine g_goto X 20 dX11_setter_115 (by decide) ?_
                refine g_sub (L' := [some (.ref mm), some (.int 1), some (.int (nI cn)), some (.int be), some (.int (nI j - 101)), none]) ⟨rfl, ⟨rfl, ⟨rfl, ⟨rfl, ⟨rfl, trivial⟩⟩⟩⟩⟩ ?_
                exact ih20 j cn be (stF day wi g) (by omega) (dn_F hT hcn) (dv_F (by omega) hT hbe) (by omega)
              · have hT : setT k n w z rc rm j = true := decide_eq_true (by have e : c = n := (by omega); subst e; rw [← hwi]; exact c100_23)
                refine g_iinc X (v := nI (cn + 1)) (L' := [some (.ref mm), some (.int 1), some (.int (nI (cn + 1))), some (.int be), some (.int (nI j - 100)), some (.int (nI c))]) dX11_setter_103 rfl (nI_addk (by decide)) (by decide) rfl rfl ?_
                refine g_iload X dX11_setter_106 rfl ?_
                refine g_bipush X (100) dX11_setter_108 (by decide) ?_
                refine g_iadd X dX11_setter_110 ?_
                refine g_istore_n X (L' := [some (.ref mm), some (.int 1), some (.int (nI (cn + 1))), some (.int ((nI j - 100) + 100)), some (.int (nI j - 100)), some (.int (nI c))]) dX11_setter_111 (by decide) rfl rfl ?_
                refine g_iinc X (v := nI j - 101) (L' := [some (.ref mm), some (.int 1), some (.int (nI (cn + 1))), some (.int ((nI j - 100) + 100)), some (.int (nI j - 101)), some (.int (nI c))]) dX11_setter_112 rfl (set_dn j) (by decide) rfl rfl ?_
                refine g_goto X 20 dX11_setter_115 (by decide) ?_
                refine g_sub (L' := [some (.ref mm), some (.int 1), some (.int (nI (cn + 1))), some (.int ((nI j - 100) + 100)), some (.int (nI j - 101)), none]) ⟨rfl, ⟨rfl, ⟨rfl, ⟨rfl, ⟨rfl, trivial⟩⟩⟩⟩⟩ ?_
                exact ih20 j (cn + 1) ((nI j - 100) + 100) (stF day wi g) (by omega) (dn_T hT hcn) (dv_T (v := fun i => nI i - 100 + 100) (by omega) hT) (by omega)
            | succ d43 ih43 =>
              intro c hc wi hwi
              refine g_iload X dX11_setter_43 rfl ?_
              refine g_aload_n X dX11_setter_45 rfl ?_
              refine g_get X uwX11 0 rfl rfl 10 (by decide) kl_X11_91 rfl rfl gwX11 dX11_setter_46 ?_
              refine g_icmp_ge X 92 dX11_setter_49 (by decide) (fun c49_24 => absurd c49_24 (fge (a := c) (b := n) (by omega) (by omega) (by omega))) (fun c49_24 => ?_)
              refine g_aload_n X dX11_setter_52 rfl ?_
              refine g_get X uwX11 0 rfl rfl 16 (by decide) kl_X11_37 rfl rfl gwX11 dX11_setter_53 ?_
              refine g_iconst X (1) dX11_setter_56 (by decide) ?_
              refine g_iload X dX11_setter_57 rfl ?_
              refine g_iadd X dX11_setter_59 ?_
              refine g_toe (x' := nI (1 + c)) (nI_add' rfl rfl) ?_
              refine g_aload_n X dX11_setter_60 rfl ?_
              refine g_get X uwX11 0 rfl rfl 11 (by decide) kl_X11_25 rfl rfl gwX11 dX11_setter_61 ?_
              refine g_iload X dX11_setter_64 rfl ?_
              refine g_iald' X 1 rfl (i := c) rfl (by omega) (by omega) dX11_setter_66 ?_
              refine g_iconst X (3) dX11_setter_67 (by decide) ?_
              refine g_icmp_ne X 83 dX11_setter_68 (by decide) (fun c68_25 => ?_) (fun c68_25 => ?_)
              · refine g_iload X dX11_setter_83 rfl ?_
                refine g_iast' X 3 rfl (i := (1 + c)) rfl (by omega) (by omega) (ws' := [(mm, .inr (11, [.int le_, .ref mtx, .int po_, .ref mnu, .int fa_, .int rcl_, .int rle_, .ref mrc, .ref mrw, .ref mrl, .int (nI n), .ref mki, .ref mwa, .int ls_, .ref mle, .ref mno, .ref mtr, .ref mse, .ref mba, .int ba_, .ref mim, .int km_, .int (nI z), .ref msi, .ref mfo, .int fm_, .ref mor, .ref mbo, .ref mma, .ref mbm, .ref mso])), (mki, .inl (V.2.2.1, 7, .inl k)), (mno, .inl (V.2.2.1, 15, .inl (stF day w g))), (mtr, .inl (V.2.2.1, 15, .inl (upd (stF day wi g) (1 + c) (nI j - 100)))), (msi, .inl (V.2.2.1, 12, .inl (siF rc rm)))]) rfl dX11_setter_85 ?_
                refine g_arr 3 (stF day (upd wi c (nI j - 100)) g) rfl (stF_uw _ _ _ _ c (by omega)) (ws' := [(mm, .inr (11, [.int le_, .ref mtx, .int po_, .ref mnu, .int fa_, .int rcl_, .int rle_, .ref mrc, .ref mrw, .ref mrl, .int (nI n), .ref mki, .ref mwa, .int ls_, .ref mle, .ref mno, .ref mtr, .ref mse, .ref mba, .int ba_, .ref mim, .int km_, .int (nI z), .ref msi, .ref mfo, .int fm_, .ref mor, .ref mbo, .ref mma, .ref mbm, .ref mso])), (mki, .inl (V.2.2.1, 7, .inl k)), (mno, .inl (V.2.2.1, 15, .inl (stF day w g))), (mtr, .inl (V.2.2.1, 15, .inl (stF day (upd wi c (nI j - 100)) g))), (msi, .inl (V.2.2.1, 12, .inl (siF rc rm)))]) rfl ?_
                refine g_iinc X (v := nI (c + 1)) (L' := [some (.ref mm), some (.int 1), some (.int (nI cn)), some (.int be), some (.int (nI j - 100)), some (.int (nI (c + 1)))]) dX11_setter_86 rfl (nI_addk (by decide)) (by decide) rfl rfl ?_
                refine g_goto X 43 dX11_setter_89 (by decide) ?_
                exact ih43 (c + 1) (by omega) (upd wi c (nI j - 100)) (see_1 (by omega) hwi c68_25)
              · refine g_aload_n X dX11_setter_71 rfl ?_
                refine g_get X uwX11 0 rfl rfl 15 (by decide) kl_X11_34 rfl rfl gwX11 dX11_setter_72 ?_
                refine g_iconst X (1) dX11_setter_75 (by decide) ?_
                refine g_iload X dX11_setter_76 rfl ?_
                refine g_iadd X dX11_setter_78 ?_
                refine g_toe (x' := nI (1 + c)) (nI_add' rfl rfl) ?_
                refine g_iald' X 2 rfl (i := (1 + c)) rfl (by omega) (by omega) dX11_setter_79 ?_
                refine g_toe (x' := w c) (stF_w _ _ _ c (by omega)) ?_
                refine g_goto X 85 dX11_setter_80 (by decide) ?_
                refine g_iast' X 3 rfl (i := (1 + c)) rfl (by omega) (by omega) (ws' := [(mm, .inr (11, [.int le_, .ref mtx, .int po_, .ref mnu, .int fa_, .int rcl_, .int rle_, .ref mrc, .ref mrw, .ref mrl, .int (nI n), .ref mki, .ref mwa, .int ls_, .ref mle, .ref mno, .ref mtr, .ref mse, .ref mba, .int ba_, .ref mim, .int km_, .int (nI z), .ref msi, .ref mfo, .int fm_, .ref mor, .ref mbo, .ref mma, .ref mbm, .ref mso])), (mki, .inl (V.2.2.1, 7, .inl k)), (mno, .inl (V.2.2.1, 15, .inl (stF day w g))), (mtr, .inl (V.2.2.1, 15, .inl (upd (stF day wi g) (1 + c) (w c)))), (msi, .inl (V.2.2.1, 12, .inl (siF rc rm)))]) rfl dX11_setter_85 ?_
                refine g_arr 3 (stF day (upd wi c (w c)) g) rfl (stF_uw _ _ _ _ c (by omega)) (ws' := [(mm, .inr (11, [.int le_, .ref mtx, .int po_, .ref mnu, .int fa_, .int rcl_, .int rle_, .ref mrc, .ref mrw, .ref mrl, .int (nI n), .ref mki, .ref mwa, .int ls_, .ref mle, .ref mno, .ref mtr, .ref mse, .ref mba, .int ba_, .ref mim, .int km_, .int (nI z), .ref msi, .ref mfo, .int fm_, .ref mor, .ref mbo, .ref mma, .ref mbm, .ref mso])), (mki, .inl (V.2.2.1, 7, .inl k)), (mno, .inl (V.2.2.1, 15, .inl (stF day w g))), (mtr, .inl (V.2.2.1, 15, .inl (stF day (upd wi c (w c)) g))), (msi, .inl (V.2.2.1, 12, .inl (siF rc rm)))]) rfl ?_
                refine g_iinc X (v := nI (c + 1)) (L' := [some (.ref mm), some (.int 1), some (.int (nI cn)), some (.int be), some (.int (nI j - 100)), some (.int (nI (c + 1)))]) dX11_setter_86 rfl (nI_addk (by decide)) (by decide) rfl rfl ?_
                refine g_goto X 43 dX11_setter_89 (by decide) ?_
                exact ih43 (c + 1) (by omega) (upd wi c (w c)) (see_0 hwi c68_25)
          exact loop43_16 n 0 (by omega) w rfl
  exact loop20_7 _ 201 0 (-4) tr (Nat.le_refl _) (Nat.zero_add _) (fiD_N _ _ _).symm (Nat.lt_succ_self _)

set_option maxHeartbeats 4000000 in
set_option maxRecDepth 100000 in
theorem w_dull (V : gV) (mm : Nat) (mtx : Nat) (mnu : Nat) (mrc : Nat) (mrw : Nat) (mrl : Nat) (mki : Nat) (mwa : Nat) (mle : Nat) (mno : Nat) (mtr : Nat) (mse : Nat) (mba : Nat) (mim : Nat) (msi : Nat) (mfo : Nat) (mor : Nat) (mbo : Nat) (mma : Nat) (mbm : Nat) (mso : Nat) (le_ : Int32) (po_ : Int32) (fa_ : Int32) (rcl_ : Int32) (rle_ : Int32) (n : Nat) (ls_ : Int32) (ba_ : Int32) (km_ : Int32) (si_ : Int32) (fm_ : Int32) (k : Nat → Int32) (day : Int32) (w : Nat → Int32) (g : Nat → Int32) (tr : Nat → Int32) (hn : n ≤ 7) (hB : Bd n w) : Ki V yX11_dull cX11_dull 5 .int ({ frames := 3, cells := 0, slots := 0, locals := 71 }) [.ref mm] [(mm, .inr (11, [.int le_, .ref mtx, .int po_, .ref mnu, .int fa_, .int rcl_, .int rle_, .ref mrc, .ref mrw, .ref mrl, .int (nI n), .ref mki, .ref mwa, .int ls_, .ref mle, .ref mno, .ref mtr, .ref mse, .ref mba, .int ba_, .ref mim, .int km_, .int si_, .ref msi, .ref mfo, .int fm_, .ref mor, .ref mbo, .ref mma, .ref mbm, .ref mso])), (mki, .inl (V.2.2.1, 7, .inl k)), (mno, .inl (V.2.2.1, 15, .inl (stF day w g))), (mtr, .inl (V.2.2.1, 15, .inl tr))] (fun (r : Int32) (u : (Nat → Int32)) => r = dullB k day n n w) (fun u => [(mm, .inr (11, [.int le_, .ref mtx, .int po_, .ref mnu, .int fa_, .int rcl_, .int rle_, .ref mrc, .ref mrw, .ref mrl, .int (nI n), .ref mki, .ref mwa, .int ls_, .ref mle, .ref mno, .ref mtr, .ref mse, .ref mba, .int ba_, .ref mim, .int km_, .int si_, .ref msi, .ref mfo, .int fm_, .ref mor, .ref mbo, .ref mma, .ref mbm, .ref mso])), (mki, .inl (V.2.2.1, 7, .inl k)), (mno, .inl (V.2.2.1, 15, .inl (stF day w g))), (mtr, .inl (V.2.2.1, 15, .inl u))]) := by
  refine Ki.of [some (.ref mm), none, none, none, none] (by decide) (Nat.le_of_ble_eq_true rfl) rfl rfl ?_
  intro Z X E
  have X : gX V Z RX11 cX11_dull 5 ({ frames := 3, cells := 0, slots := 0, locals := 71 }) := X
  refine g_iconst X (0) dX11_dull_0 (by decide) ?_
  refine g_istore_n X (L' := [some (.ref mm), some (.int 0), none, none, none]) dX11_dull_1 (by decide) rfl rfl ?_
  refine g_iconst X (0) dX11_dull_2 (by decide) ?_
  refine g_istore_n X (L' := [some (.ref mm), some (.int 0), some (.int 0), none, none]) dX11_dull_3 (by decide) rfl rfl ?_
  have loop4 : ∀ (d4 b : Nat), b + d4 = n → ∀ (bi : Int32) (tr1 : Nat → Int32) (h1 : bi = it (fun c s => if dullF k day n w c = 0 then s else s ||| (1 <<< (nI c &&& 31))) b 0), G V Z 5 (0, 0) [(mm, .inr (11, [.int le_, .ref mtx, .int po_, .ref mnu, .int fa_, .int rcl_, .int rle_, .ref mrc, .ref mrw, .ref mrl, .int (nI n), .ref mki, .ref mwa, .int ls_, .ref mle, .ref mno, .ref mtr, .ref mse, .ref mba, .int ba_, .ref mim, .int km_, .int si_, .ref msi, .ref mfo, .int fm_, .ref mor, .ref mbo, .ref mma, .ref mbm, .ref mso])), (mki, .inl (V.2.2.1, 7, .inl k)), (mno, .inl (V.2.2.1, 15, .inl (stF day w g))), (mtr, .inl (V.2.2.1, 15, .inl tr1))] 4 [some (.ref mm), some (.int bi), some (.int (nI b)), none, none] [] := by
    intro d4
    induction d4 with
    | zero =>
      intro b hb bi tr1 h1
      refine g_iload_n X dX11_dull_4 rfl ?_
      refine g_aload_n X dX11_dull_5 rfl ?_
      refine g_get X uwX11 0 rfl rfl 10 (by decide) kl_X11_91 rfl rfl gwX11 dX11_dull_6 ?_
      refine g_icmp_ge X 133 dX11_dull_9 (by decide) (fun c9_1 => ?_) (fun c9_1 => absurd (tge (a := b) (b := n) (by omega) (by omega) (by omega)) c9_1)
      refine g_iload_n X dX11_dull_133 rfl ?_
      exact g_iret X E dX11_dull_134 tr1 bi (by have e : b = n := (by omega); subst e; rw [dullB]; exact h1) rfl
    | succ d4 ih4 =>
      intro b hb bi tr1 h1
      refine g_iload_n X dX11_dull_4 rfl ?_
      refine g_aload_n X dX11_dull_5 rfl ?_
      refine g_get X uwX11 0 rfl rfl 10 (by decide) kl_X11_91 rfl rfl gwX11 dX11_dull_6 ?_
      refine g_icmp_ge X 133 dX11_dull_9 (by decide) (fun c9_2 => absurd c9_2 (fge (a := b) (b := n) (by omega) (by omega) (by omega))) (fun c9_2 => ?_)
      refine g_aload_n X dX11_dull_12 rfl ?_
      refine g_get X uwX11 0 rfl rfl 15 (by decide) kl_X11_34 rfl rfl gwX11 dX11_dull_13 ?_
      refine g_iconst X (1) dX11_dull_16 (by decide) ?_
      refine g_iload_n X dX11_dull_17 rfl ?_
      refine g_iadd X dX11_dull_18 ?_
      refine g_toe (x' := nI (1 + b)) (nI_add' rfl rfl) ?_
      refine g_iald' X 2 rfl (i := (1 + b)) rfl (by omega) (by omega) dX11_dull_19 ?_
      refine g_toe (x' := w b) (stF_w _ _ _ b (by omega)) ?_
      refine g_if_eq X 27 dX11_dull_20 (by decide) (fun c20_3 => ?_) (fun c20_3 => ?_)
      · refine g_iconst X (0) dX11_dull_27 (by decide) ?_
        refine g_istore_n X (L' := [some (.ref mm), some (.int bi), some (.int (nI b)), some (.int 0), none]) dX11_dull_28 (by decide) rfl rfl ?_
        refine g_iconst X (0) dX11_dull_29 (by decide) ?_
        refine g_istore X (L' := [some (.ref mm), some (.int bi), some (.int (nI b)), some (.int 0), some (.int 0)]) dX11_dull_30 (by decide) rfl rfl ?_
        have loop32_4 : ∀ (d32 a : Nat), a + d32 = n → ∀ (du : Int32) (tr2 : Nat → Int32) (h2 : du = dlF k day w b a), G V Z 5 (0, 0) [(mm, .inr (11, [.int le_, .ref mtx, .int po_, .ref mnu, .int fa_, .int rcl_, .int rle_, .ref mrc, .ref mrw, .ref mrl, .int (nI n), .ref mki, .ref mwa, .int ls_, .ref mle, .ref mno, .ref mtr, .ref mse, .ref mba, .int ba_, .ref mim, .int km_, .int si_, .ref msi, .ref mfo, .int fm_, .ref mor, .ref mbo, .ref mma, .ref mbm, .ref mso])), (mki, .inl (V.2.2.1, 7, .inl k)), (mno, .inl (V.2.2.1, 15, .inl (stF day w g))), (mtr, .inl (V.2.2.1, 15, .inl tr2))] 32 [some (.ref mm), some (.int bi), some (.int (nI b)), some (.int du), some (.int (nI a))] [] := by
          intro d32
          induction d32 with
          | zero =>
            intro a ha du tr2 h2
            refine g_iload X dX11_dull_32 rfl ?_
            refine g_aload_n X dX11_dull_34 rfl ?_
            refine g_get X uwX11 0 rfl rfl 10 (by decide) kl_X11_91 rfl rfl gwX11 dX11_dull_35 ?_
            refine g_icmp_ge X 113 dX11_dull_38 (by decide) (fun c38_5 => ?_) (fun c38_5 => absurd (tge (a := a) (b := n) (by omega) (by omega) (by omega)) c38_5)
            have hd : du = dullF k day n w b := dl_end hB (by omega) (by omega) h2 (Or.inl (by omega))
            refine g_iload_n X dX11_dull_113 rfl ?_
            refine g_iload_n X dX11_dull_114 rfl ?_
            refine g_if_eq X 124 dX11_dull_115 (by decide) (fun c115_6 => ?_) (fun c115_6 => ?_)
            · refine g_iconst X (0) dX11_dull_124 (by decide) ?_
              refine g_ior X dX11_dull_125 ?_
              refine g_istore_n X (L' := [some (.ref mm), some (.int (bi ||| 0)), some (.int (nI b)), some (.int du), some (.int (nI a))]) dX11_dull_126 (by decide) rfl rfl ?_
              refine g_iinc X (v := nI (b + 1)) (L' := [some (.ref mm), some (.int (bi ||| 0)), some (.int (nI (b + 1))), some (.int du), some (.int (nI a))]) dX11_dull_127 rfl (nI_addk (by decide)) (by decide) rfl rfl ?_
              refine g_goto X 4 dX11_dull_130 (by decide) ?_
              refine g_sub (L' := [some (.ref mm), some (.int (bi ||| 0)), some (.int (nI (b + 1))), none, none]) ⟨rfl, ⟨rfl, ⟨rfl, trivial⟩⟩⟩ ?_
              exact ih4 (b + 1) (by omega) (bi ||| 0) tr2 (by rw [it_s, ← h1, if_pos (by rw [← hd]; exact c115_6), Int32.or_zero])
            · refine g_iconst X (1) dX11_dull_118 (by decide) ?_
              refine g_iload_n X dX11_dull_119 rfl ?_
              refine g_ishl X dX11_dull_120 ?_
              refine g_goto X 125 dX11_dull_121 (by decide) ?_
              refine g_ior X dX11_dull_125 ?_
              refine g_istore_n X (L' := [some (.ref mm), some (.int (bi ||| (1 <<< ((nI b) &&& 31)))), some (.int (nI b)), some (.int du), some (.int (nI a))]) dX11_dull_126 (by decide) rfl rfl ?_
              refine g_iinc X (v := nI (b + 1)) (L' := [some (.ref mm), some (.int (bi ||| (1 <<< ((nI b) &&& 31)))), some (.int (nI (b + 1))), some (.int du), some (.int (nI a))]) dX11_dull_127 rfl (nI_addk (by decide)) (by decide) rfl rfl ?_
              refine g_goto X 4 dX11_dull_130 (by decide) ?_
              refine g_sub (L' := [some (.ref mm), some (.int (bi ||| (1 <<< ((nI b) &&& 31)))), some (.int (nI (b + 1))), none, none]) ⟨rfl, ⟨rfl, ⟨rfl, trivial⟩⟩⟩ ?_
              exact ih4 (b + 1) (by omega) (bi ||| (1 <<< ((nI b) &&& 31))) tr2 (by rw [it_s, ← h1, if_neg (by rw [← hd]; exact c115_6)])
          | succ d32 ih32 =>
            intro a ha du tr2 h2
            refine g_iload X dX11_dull_32 rfl ?_
            refine g_aload_n X dX11_dull_34 rfl ?_
            refine g_get X uwX11 0 rfl rfl 10 (by decide) kl_X11_91 rfl rfl gwX11 dX11_dull_35 ?_
            refine g_icmp_ge X 113 dX11_dull_38 (by decide) (fun c38_7 => absurd c38_7 (fge (a := a) (b := n) (by omega) (by omega) (by omega))) (fun c38_7 => ?_)
            refine g_iload_n X dX11_dull_41 rfl ?_
            refine g_if_eq X 113 dX11_dull_42 (by decide) (fun c42_8 => ?_) (fun c42_8 => ?_)
            · have hd : du = dullF k day n w b := dl_end hB (by omega) (by omega) h2 (Or.inr c42_8)
              refine g_iload_n X dX11_dull_113 rfl ?_
              refine g_iload_n X dX11_dull_114 rfl ?_
              refine g_if_eq X 124 dX11_dull_115 (by decide) (fun c115_9 => ?_) (fun c115_9 => ?_)
              · refine g_iconst X (0) dX11_dull_124 (by decide) ?_
                refine g_ior X dX11_dull_125 ?_
                refine g_istore_n X (L' := [some (.ref mm), some (.int (bi ||| 0)), some (.int (nI b)), some (.int du), some (.int (nI a))]) dX11_dull_126 (by decide) rfl rfl ?_
                refine g_iinc X (v := nI (b + 1)) (L' := [some (.ref mm), some (.int (bi ||| 0)), some (.int (nI (b + 1))), some (.int du), some (.int (nI a))]) dX11_dull_127 rfl (nI_addk (by decide)) (by decide) rfl rfl ?_
                refine g_goto X 4 dX11_dull_130 (by decide) ?_
                refine g_sub (L' := [some (.ref mm), some (.int (bi ||| 0)), some (.int (nI (b + 1))), none, none]) ⟨rfl, ⟨rfl, ⟨rfl, trivial⟩⟩⟩ ?_
                exact ih4 (b + 1) (by omega) (bi ||| 0) tr2 (by rw [it_s, ← h1, if_pos (by rw [← hd]; exact c115_9), Int32.or_zero])
              · refine g_iconst X (1) dX11_dull_118 (by decide) ?_
                refine g_iload_n X dX11_dull_119 rfl ?_
                refine g_ishl X dX11_dull_120 ?_
                refine g_goto X 125 dX11_dull_121 (by decide) ?_
                refine g_ior X dX11_dull_125 ?_
                refine g_istore_n X (L' := [some (.ref mm), some (.int (bi ||| (1 <<< ((nI b) &&& 31)))), some (.int (nI b)), some (.int du), some (.int (nI a))]) dX11_dull_126 (by decide) rfl rfl ?_
                refine g_iinc X (v := nI (b + 1)) (L' := [some (.ref mm), some (.int (bi ||| (1 <<< ((nI b) &&& 31)))), some (.int (nI (b + 1))), some (.int du), some (.int (nI a))]) dX11_dull_127 rfl (nI_addk (by decide)) (by decide) rfl rfl ?_
                refine g_goto X 4 dX11_dull_130 (by decide) ?_
                refine g_sub (L' := [some (.ref mm), some (.int (bi ||| (1 <<< ((nI b) &&& 31)))), some (.int (nI (b + 1))), none, none]) ⟨rfl, ⟨rfl, ⟨rfl, trivial⟩⟩⟩ ?_
                exact ih4 (b + 1) (by omega) (bi ||| (1 <<< ((nI b) &&& 31))) tr2 (by rw [it_s, ← h1, if_neg (by rw [← hd]; exact c115_9)])
            · refine g_aload_n X dX11_dull_45 rfl ?_
              refine g_get X uwX11 0 rfl rfl 15 (by decide) kl_X11_34 rfl rfl gwX11 dX11_dull_46 ?_
              refine g_iconst X (0) dX11_dull_49 (by decide) ?_
              refine g_aload_n X dX11_dull_50 rfl ?_
              refine g_get X uwX11 0 rfl rfl 16 (by decide) kl_X11_37 rfl rfl gwX11 dX11_dull_51 ?_
              refine g_iconst X (0) dX11_dull_54 (by decide) ?_
              refine g_callSv X (c_X11_copy V mno 15 (stF day w g) mtr 15 tr2 0 0 (by omega) (by omega) (by omega) (by omega)) mo_X11_copy kl_X11_165 [2, 3] [0, 0, 1, 2] rfl (by decide +kernel) rfl rfl (fun _ => Nat.le_of_ble_eq_true rfl) (As := [.ref mno, .int 0, .ref mtr, .int 0]) (st := []) (cs' := (0, 0)) rfl rfl rfl dX11_dull_55 (fun u_10 hp_11 ws_13 hw_12 => ?_)
              have hw_12x : ws_13 = [(mm, .inr (11, [.int le_, .ref mtx, .int po_, .ref mnu, .int fa_, .int rcl_, .int rle_, .ref mrc, .ref mrw, .ref mrl, .int (nI n), .ref mki, .ref mwa, .int ls_, .ref mle, .ref mno, .ref mtr, .ref mse, .ref mba, .int ba_, .ref mim, .int km_, .int si_, .ref msi, .ref mfo, .int fm_, .ref mor, .ref mbo, .ref mma, .ref mbm, .ref mso])), (mki, .inl (V.2.2.1, 7, .inl k)), (mno, .inl (V.2.2.1, 15, .inl (stF day w g))), (mtr, .inl (V.2.2.1, 15, .inl (cpM 0 0 (stF day w g) tr2)))] := hw_12.symm
              clear hw_12; subst hw_12x
              refine g_arr 3 (stF day w g) rfl cpM_0 (ws' := [(mm, .inr (11, [.int le_, .ref mtx, .int po_, .ref mnu, .int fa_, .int rcl_, .int rle_, .ref mrc, .ref mrw, .ref mrl, .int (nI n), .ref mki, .ref mwa, .int ls_, .ref mle, .ref mno, .ref mtr, .ref mse, .ref mba, .int ba_, .ref mim, .int km_, .int si_, .ref msi, .ref mfo, .int fm_, .ref mor, .ref mbo, .ref mma, .ref mbm, .ref mso])), (mki, .inl (V.2.2.1, 7, .inl k)), (mno, .inl (V.2.2.1, 15, .inl (stF day w g))), (mtr, .inl (V.2.2.1, 15, .inl (stF day w g)))]) rfl ?_
              refine g_aload_n X dX11_dull_58 rfl ?_
              refine g_aload_n X dX11_dull_59 rfl ?_
              refine g_get X uwX11 0 rfl rfl 16 (by decide) kl_X11_37 rfl rfl gwX11 dX11_dull_60 ?_
              refine g_bipush X (10) dX11_dull_63 (by decide) ?_
              refine g_iload X dX11_dull_65 rfl ?_
              refine g_imul X dX11_dull_67 ?_
              refine g_toe (x' := nI (10 * a)) (nI_mul' rfl rfl) ?_
              refine g_iload_n X dX11_dull_68 rfl ?_
              refine g_iadd X dX11_dull_69 ?_
              refine g_toe (x' := nI (10 * a + b)) (nI_add' rfl rfl) ?_
              by_cases htk : tOK k day n (10 * a + b)
              · refine g_callVi X (c_X11_teaches_yes V mm mtx mnu mrc mrw mrl mki mwa mle mno mtr mse mba mim msi mfo mor mbo mma mbm mso le_ po_ fa_ rcl_ rle_ n ls_ ba_ km_ si_ fm_ k day w g mtr (10 * a + b) (by omega) (by omega) (by omega) htk) mo_X11_teaches kl_X11_182 [0, 1, 3] [1, 2, 0, 3] rfl (by decide +kernel) rfl rfl (fun _ => Nat.le_of_ble_eq_true rfl) 0 11 rfl rfl (As := [.ref mtr, .int (nI (10 * a + b))]) (st := []) (cs' := (0, 0)) rfl rfl rfl rfl dX11_dull_70 (fun r_19 u_15 hp_16 ws_18 hw_17 => ?_)
                obtain rfl : r_19 = 1 := hp_16
                have hw_17x : ws_18 = [(mm, .inr (11, [.int le_, .ref mtx, .int po_, .ref mnu, .int fa_, .int rcl_, .int rle_, .ref mrc, .ref mrw, .ref mrl, .int (nI n), .ref mki, .ref mwa, .int ls_, .ref mle, .ref mno, .ref mtr, .ref mse, .ref mba, .int ba_, .ref mim, .int km_, .int si_, .ref msi, .ref mfo, .int fm_, .ref mor, .ref mbo, .ref mma, .ref mbm, .ref mso])), (mki, .inl (V.2.2.1, 7, .inl k)), (mno, .inl (V.2.2.1, 15, .inl (stF day w g))), (mtr, .inl (V.2.2.1, 15, .inl (stF day (tLe k day (10 * a + b) w) g)))] := hw_17.symm
                clear hw_17; subst hw_17x
                refine g_if_eq X 101 dX11_dull_73 (by decide) (fun c73_20 => absurd c73_20 (by decide)) (fun c73_20 => ?_)
                refine g_aload_n X dX11_dull_76 rfl ?_
                refine g_get X uwX11 0 rfl rfl 16 (by decide) kl_X11_37 rfl rfl gwX11 dX11_dull_77 ?_
                refine g_iconst X (1) dX11_dull_80 (by decide) ?_
                refine g_iload_n X dX11_dull_81 rfl ?_
                refine g_iadd X dX11_dull_82 ?_
                refine g_toe (x' := nI (1 + b)) (nI_add' rfl rfl) ?_
                refine g_iald' X 3 rfl (i := (1 + b)) rfl (by omega) (by omega) dX11_dull_83 ?_
                refine g_toe (x' := (tLe k day (10 * a + b) w) b) (stF_w _ _ _ b (by omega)) ?_
                refine g_callSi X (c_X11_far V ((tLe k day (10 * a + b) w) b)) mo_X11_far kl_X11_151 [] [0, 0, 0, 0] rfl (by decide +kernel) rfl rfl (fun _ => Nat.le_of_ble_eq_true rfl) (As := [.int ((tLe k day (10 * a + b) w) b)]) (st := []) (cs' := (0, 0)) rfl rfl rfl dX11_dull_84 (fun r_25 u_21 hp_22 ws_24 hw_23 => ?_)
                obtain rfl : r_25 = absF ((tLe k day (10 * a + b) w) b) := hp_22
                have hw_23x : ws_24 = [(mm, .inr (11, [.int le_, .ref mtx, .int po_, .ref mnu, .int fa_, .int rcl_, .int rle_, .ref mrc, .ref mrw, .ref mrl, .int (nI n), .ref mki, .ref mwa, .int ls_, .ref mle, .ref mno, .ref mtr, .ref mse, .ref mba, .int ba_, .ref mim, .int km_, .int si_, .ref msi, .ref mfo, .int fm_, .ref mor, .ref mbo, .ref mma, .ref mbm, .ref mso])), (mki, .inl (V.2.2.1, 7, .inl k)), (mno, .inl (V.2.2.1, 15, .inl (stF day w g))), (mtr, .inl (V.2.2.1, 15, .inl (stF day (tLe k day (10 * a + b) w) g)))] := hw_23.symm
                clear hw_23; subst hw_23x
                refine g_aload_n X dX11_dull_87 rfl ?_
                refine g_get X uwX11 0 rfl rfl 15 (by decide) kl_X11_34 rfl rfl gwX11 dX11_dull_88 ?_
                refine g_iconst X (1) dX11_dull_91 (by decide) ?_
                refine g_iload_n X dX11_dull_92 rfl ?_
                refine g_iadd X dX11_dull_93 ?_
                refine g_toe (x' := nI (1 + b)) (nI_add' rfl rfl) ?_
                refine g_iald' X 2 rfl (i := (1 + b)) rfl (by omega) (by omega) dX11_dull_94 ?_
                refine g_toe (x' := w b) (stF_w _ _ _ b (by omega)) ?_
                refine g_callSi X (c_X11_far V (w b)) mo_X11_far kl_X11_151 [] [0, 0, 0, 0] rfl (by decide +kernel) rfl rfl (fun _ => Nat.le_of_ble_eq_true rfl) (As := [.int (w b)]) (st := [.int (absF ((tLe k day (10 * a + b) w) b))]) (cs' := (0, 0)) rfl rfl rfl dX11_dull_95 (fun r_30 u_26 hp_27 ws_29 hw_28 => ?_)
                obtain rfl : r_30 = absF (w b) := hp_27
                have hw_28x : ws_29 = [(mm, .inr (11, [.int le_, .ref mtx, .int po_, .ref mnu, .int fa_, .int rcl_, .int rle_, .ref mrc, .ref mrw, .ref mrl, .int (nI n), .ref mki, .ref mwa, .int ls_, .ref mle, .ref mno, .ref mtr, .ref mse, .ref mba, .int ba_, .ref mim, .int km_, .int si_, .ref msi, .ref mfo, .int fm_, .ref mor, .ref mbo, .ref mma, .ref mbm, .ref mso])), (mki, .inl (V.2.2.1, 7, .inl k)), (mno, .inl (V.2.2.1, 15, .inl (stF day w g))), (mtr, .inl (V.2.2.1, 15, .inl (stF day (tLe k day (10 * a + b) w) g)))] := hw_28.symm
                clear hw_28; subst hw_28x
                refine g_icmp_lt X 105 dX11_dull_98 (by decide) (fun c98_31 => ?_) (fun c98_31 => ?_)
                · have c98_31d := Int32.not_le.mpr c98_31
                  refine g_iconst X (0) dX11_dull_105 (by decide) ?_
                  refine g_istore_n X (L' := [some (.ref mm), some (.int bi), some (.int (nI b)), some (.int 0), some (.int (nI a))]) dX11_dull_106 (by decide) rfl rfl ?_
                  refine g_iinc X (v := nI (a + 1)) (L' := [some (.ref mm), some (.int bi), some (.int (nI b)), some (.int 0), some (.int (nI (a + 1)))]) dX11_dull_107 rfl (nI_addk (by decide)) (by decide) rfl rfl ?_
                  refine g_goto X 32 dX11_dull_110 (by decide) ?_
                  exact ih32 (a + 1) (by omega) 0 (stF day (tLe k day (10 * a + b) w) g) (by rw [dl_s (by rw [← h2]; exact c42_8), dl_y hB hn (by omega) (by omega) htk, if_pos c98_31])
                · have c98_31d := Int32.not_lt.mp c98_31
                  refine g_iconst X (1) dX11_dull_101 (by decide) ?_
                  refine g_goto X 106 dX11_dull_102 (by decide) ?_
                  refine g_istore_n X (L' := [some (.ref mm), some (.int bi), some (.int (nI b)), some (.int 1), some (.int (nI a))]) dX11_dull_106 (by decide) rfl rfl ?_
                  refine g_iinc X (v := nI (a + 1)) (L' := [some (.ref mm), some (.int bi), some (.int (nI b)), some (.int 1), some (.int (nI (a + 1)))]) dX11_dull_107 rfl (nI_addk (by decide)) (by decide) rfl rfl ?_
                  refine g_goto X 32 dX11_dull_110 (by decide) ?_
                  exact ih32 (a + 1) (by omega) 1 (stF day (tLe k day (10 * a + b) w) g) (by rw [dl_s (by rw [← h2]; exact c42_8), dl_y hB hn (by omega) (by omega) htk, if_neg c98_31])
              · refine g_callVi X (c_X11_teaches_no V mm mtx mnu mrc mrw mrl mki mwa mle mno mtr mse mba mim msi mfo mor mbo mma mbm mso le_ po_ fa_ rcl_ rle_ n ls_ ba_ km_ si_ fm_ k day w g mtr (10 * a + b) (by omega) (by omega) htk) mo_X11_teaches kl_X11_182 [0, 1, 3] [1, 2, 0, 3] rfl (by decide +kernel) rfl rfl (fun _ => Nat.le_of_ble_eq_true rfl) 0 11 rfl rfl (As := [.ref mtr, .int (nI (10 * a + b))]) (st := []) (cs' := (0, 0)) rfl rfl rfl rfl dX11_dull_70 (fun r_36 u_32 hp_33 ws_35 hw_34 => ?_)
                obtain rfl : r_36 = 0 := hp_33
                have hw_34x : ws_35 = [(mm, .inr (11, [.int le_, .ref mtx, .int po_, .ref mnu, .int fa_, .int rcl_, .int rle_, .ref mrc, .ref mrw, .ref mrl, .int (nI n), .ref mki, .ref mwa, .int ls_, .ref mle, .ref mno, .ref mtr, .ref mse, .ref mba, .int ba_, .ref mim, .int km_, .int si_, .ref msi, .ref mfo, .int fm_, .ref mor, .ref mbo, .ref mma, .ref mbm, .ref mso])), (mki, .inl (V.2.2.1, 7, .inl k)), (mno, .inl (V.2.2.1, 15, .inl (stF day w g))), (mtr, .inl (V.2.2.1, 15, .inl (stF day w g)))] := hw_34.symm
                clear hw_34; subst hw_34x
                refine g_if_eq X 101 dX11_dull_73 (by decide) (fun c73_37 => ?_) (fun c73_37 => absurd (by decide) c73_37)
                refine g_iconst X (1) dX11_dull_101 (by decide) ?_
                refine g_goto X 106 dX11_dull_102 (by decide) ?_
                refine g_istore_n X (L' := [some (.ref mm), some (.int bi), some (.int (nI b)), some (.int 1), some (.int (nI a))]) dX11_dull_106 (by decide) rfl rfl ?_
                refine g_iinc X (v := nI (a + 1)) (L' := [some (.ref mm), some (.int bi), some (.int (nI b)), some (.int 1), some (.int (nI (a + 1)))]) dX11_dull_107 rfl (nI_addk (by decide)) (by decide) rfl rfl ?_
                refine g_goto X 32 dX11_dull_110 (by decide) ?_
                exact ih32 (a + 1) (by omega) 1 (stF day w g) (by rw [dl_s (by rw [← h2]; exact c42_8), dl_no hn (by omega) (by omega) htk])
        exact loop32_4 n 0 (by omega) 0 tr1 (by rw [dlF, if_pos c20_3])
      · refine g_iconst X (1) dX11_dull_23 (by decide) ?_
        refine g_goto X 28 dX11_dull_24 (by decide) ?_
        refine g_istore_n X (L' := [some (.ref mm), some (.int bi), some (.int (nI b)), some (.int 1), none]) dX11_dull_28 (by decide) rfl rfl ?_
        refine g_iconst X (0) dX11_dull_29 (by decide) ?_
        refine g_istore X (L' := [some (.ref mm), some (.int bi), some (.int (nI b)), some (.int 1), some (.int 0)]) dX11_dull_30 (by decide) rfl rfl ?_
        have loop32_38 : ∀ (d32 a : Nat), a + d32 = n → ∀ (du : Int32) (tr2 : Nat → Int32) (h2 : du = dlF k day w b a), G V Z 5 (0, 0) [(mm, .inr (11, [.int le_, .ref mtx, .int po_, .ref mnu, .int fa_, .int rcl_, .int rle_, .ref mrc, .ref mrw, .ref mrl, .int (nI n), .ref mki, .ref mwa, .int ls_, .ref mle, .ref mno, .ref mtr, .ref mse, .ref mba, .int ba_, .ref mim, .int km_, .int si_, .ref msi, .ref mfo, .int fm_, .ref mor, .ref mbo, .ref mma, .ref mbm, .ref mso])), (mki, .inl (V.2.2.1, 7, .inl k)), (mno, .inl (V.2.2.1, 15, .inl (stF day w g))), (mtr, .inl (V.2.2.1, 15, .inl tr2))] 32 [some (.ref mm), some (.int bi), some (.int (nI b)), some (.int du), some (.int (nI a))] [] := by
          intro d32
          induction d32 with
          | zero =>
            intro a ha du tr2 h2
            refine g_iload X dX11_dull_32 rfl ?_
            refine g_aload_n X dX11_dull_34 rfl ?_
            refine g_get X uwX11 0 rfl rfl 10 (by decide) kl_X11_91 rfl rfl gwX11 dX11_dull_35 ?_
            refine g_icmp_ge X 113 dX11_dull_38 (by decide) (fun c38_39 => ?_) (fun c38_39 => absurd (tge (a := a) (b := n) (by omega) (by omega) (by omega)) c38_39)
            have hd : du = dullF k day n w b := dl_end hB (by omega) (by omega) h2 (Or.inl (by omega))
            refine g_iload_n X dX11_dull_113 rfl ?_
            refine g_iload_n X dX11_dull_114 rfl ?_
            refine g_if_eq X 124 dX11_dull_115 (by decide) (fun c115_40 => ?_) (fun c115_40 => ?_)
            · refine g_iconst X (0) dX11_dull_124 (by decide) ?_
              refine g_ior X dX11_dull_125 ?_
              refine g_istore_n X (L' := [some (.ref mm), some (.int (bi ||| 0)), some (.int (nI b)), some (.int du), some (.int (nI a))]) dX11_dull_126 (by decide) rfl rfl ?_
              refine g_iinc X (v := nI (b + 1)) (L' := [some (.ref mm), some (.int (bi ||| 0)), some (.int (nI (b + 1))), some (.int du), some (.int (nI a))]) dX11_dull_127 rfl (nI_addk (by decide)) (by decide) rfl rfl ?_
              refine g_goto X 4 dX11_dull_130 (by decide) ?_
              refine g_sub (L' := [some (.ref mm), some (.int (bi ||| 0)), some (.int (nI (b + 1))), none, none]) ⟨rfl, ⟨rfl, ⟨rfl, trivial⟩⟩⟩ ?_
              exact ih4 (b + 1) (by omega) (bi ||| 0) tr2 (by rw [it_s, ← h1, if_pos (by rw [← hd]; exact c115_40), Int32.or_zero])
            · refine g_iconst X (1) dX11_dull_118 (by decide) ?_
              refine g_iload_n X dX11_dull_119 rfl ?_
              refine g_ishl X dX11_dull_120 ?_
              refine g_goto X 125 dX11_dull_121 (by decide) ?_
              refine g_ior X dX11_dull_125 ?_
              refine g_istore_n X (L' := [some (.ref mm), some (.int (bi ||| (1 <<< ((nI b) &&& 31)))), some (.int (nI b)), some (.int du), some (.int (nI a))]) dX11_dull_126 (by decide) rfl rfl ?_
              refine g_iinc X (v := nI (b + 1)) (L' := [some (.ref mm), some (.int (bi ||| (1 <<< ((nI b) &&& 31)))), some (.int (nI (b + 1))), some (.int du), some (.int (nI a))]) dX11_dull_127 rfl (nI_addk (by decide)) (by decide) rfl rfl ?_
              refine g_goto X 4 dX11_dull_130 (by decide) ?_
              refine g_sub (L' := [some (.ref mm), some (.int (bi ||| (1 <<< ((nI b) &&& 31)))), some (.int (nI (b + 1))), none, none]) ⟨rfl, ⟨rfl, ⟨rfl, trivial⟩⟩⟩ ?_
              exact ih4 (b + 1) (by omega) (bi ||| (1 <<< ((nI b) &&& 31))) tr2 (by rw [it_s, ← h1, if_neg (by rw [← hd]; exact c115_40)])
          | succ d32 ih32 =>
            intro a ha du tr2 h2
            refine g_iload X dX11_dull_32 rfl ?_
            refine g_aload_n X dX11_dull_34 rfl ?_
            refine g_get X uwX11 0 rfl rfl 10 (by decide) kl_X11_91 rfl rfl gwX11 dX11_dull_35 ?_
            refine g_icmp_ge X 113 dX11_dull_38 (by decide) (fun c38_41 => absurd c38_41 (fge (a := a) (b := n) (by omega) (by omega) (by omega))) (fun c38_41 => ?_)
            refine g_iload_n X dX11_dull_41 rfl ?_
            refine g_if_eq X 113 dX11_dull_42 (by decide) (fun c42_42 => ?_) (fun c42_42 => ?_)
            · have hd : du = dullF k day n w b := dl_end hB (by omega) (by omega) h2 (Or.inr c42_42)
              refine g_iload_n X dX11_dull_113 rfl ?_
              refine g_iload_n X dX11_dull_114 rfl ?_
              refine g_if_eq X 124 dX11_dull_115 (by decide) (fun c115_43 => ?_) (fun c115_43 => ?_)
              · refine g_iconst X (0) dX11_dull_124 (by decide) ?_
                refine g_ior X dX11_dull_125 ?_
                refine g_istore_n X (L' := [some (.ref mm), some (.int (bi ||| 0)), some (.int (nI b)), some (.int du), some (.int (nI a))]) dX11_dull_126 (by decide) rfl rfl ?_
                refine g_iinc X (v := nI (b + 1)) (L' := [some (.ref mm), some (.int (bi ||| 0)), some (.int (nI (b + 1))), some (.int du), some (.int (nI a))]) dX11_dull_127 rfl (nI_addk (by decide)) (by decide) rfl rfl ?_
                refine g_goto X 4 dX11_dull_130 (by decide) ?_
                refine g_sub (L' := [some (.ref mm), some (.int (bi ||| 0)), some (.int (nI (b + 1))), none, none]) ⟨rfl, ⟨rfl, ⟨rfl, trivial⟩⟩⟩ ?_
                exact ih4 (b + 1) (by omega) (bi ||| 0) tr2 (by rw [it_s, ← h1, if_pos (by rw [← hd]; exact c115_43), Int32.or_zero])
              · refine g_iconst X (1) dX11_dull_118 (by decide) ?_
                refine g_iload_n X dX11_dull_119 rfl ?_
                refine g_ishl X dX11_dull_120 ?_
                refine g_goto X 125 dX11_dull_121 (by decide) ?_
                refine g_ior X dX11_dull_125 ?_
                refine g_istore_n X (L' := [some (.ref mm), some (.int (bi ||| (1 <<< ((nI b) &&& 31)))), some (.int (nI b)), some (.int du), some (.int (nI a))]) dX11_dull_126 (by decide) rfl rfl ?_
                refine g_iinc X (v := nI (b + 1)) (L' := [some (.ref mm), some (.int (bi ||| (1 <<< ((nI b) &&& 31)))), some (.int (nI (b + 1))), some (.int du), some (.int (nI a))]) dX11_dull_127 rfl (nI_addk (by decide)) (by decide) rfl rfl ?_
                refine g_goto X 4 dX11_dull_130 (by decide) ?_
                refine g_sub (L' := [some (.ref mm), some (.int (bi ||| (1 <<< ((nI b) &&& 31)))), some (.int (nI (b + 1))), none, none]) ⟨rfl, ⟨rfl, ⟨rfl, trivial⟩⟩⟩ ?_
                exact ih4 (b + 1) (by omega) (bi ||| (1 <<< ((nI b) &&& 31))) tr2 (by rw [it_s, ← h1, if_neg (by rw [← hd]; exact c115_43)])
            · refine g_aload_n X dX11_dull_45 rfl ?_
              refine g_get X uwX11 0 rfl rfl 15 (by decide) kl_X11_34 rfl rfl gwX11 dX11_dull_46 ?_
              refine g_iconst X (0) dX11_dull_49 (by decide) ?_
              refine g_aload_n X dX11_dull_50 rfl ?_
              refine g_get X uwX11 0 rfl rfl 16 (by decide) kl_X11_37 rfl rfl gwX11 dX11_dull_51 ?_
              refine g_iconst X (0) dX11_dull_54 (by decide) ?_
              refine g_callSv X (c_X11_copy V mno 15 (stF day w g) mtr 15 tr2 0 0 (by omega) (by omega) (by omega) (by omega)) mo_X11_copy kl_X11_165 [2, 3] [0, 0, 1, 2] rfl (by decide +kernel) rfl rfl (fun _ => Nat.le_of_ble_eq_true rfl) (As := [.ref mno, .int 0, .ref mtr, .int 0]) (st := []) (cs' := (0, 0)) rfl rfl rfl dX11_dull_55 (fun u_44 hp_45 ws_47 hw_46 => ?_)
              have hw_46x : ws_47 = [(mm, .inr (11, [.int le_, .ref mtx, .int po_, .ref mnu, .int fa_, .int rcl_, .int rle_, .ref mrc, .ref mrw, .ref mrl, .int (nI n), .ref mki, .ref mwa, .int ls_, .ref mle, .ref mno, .ref mtr, .ref mse, .ref mba, .int ba_, .ref mim, .int km_, .int si_, .ref msi, .ref mfo, .int fm_, .ref mor, .ref mbo, .ref mma, .ref mbm, .ref mso])), (mki, .inl (V.2.2.1, 7, .inl k)), (mno, .inl (V.2.2.1, 15, .inl (stF day w g))), (mtr, .inl (V.2.2.1, 15, .inl (cpM 0 0 (stF day w g) tr2)))] := hw_46.symm
              clear hw_46; subst hw_46x
              refine g_arr 3 (stF day w g) rfl cpM_0 (ws' := [(mm, .inr (11, [.int le_, .ref mtx, .int po_, .ref mnu, .int fa_, .int rcl_, .int rle_, .ref mrc, .ref mrw, .ref mrl, .int (nI n), .ref mki, .ref mwa, .int ls_, .ref mle, .ref mno, .ref mtr, .ref mse, .ref mba, .int ba_, .ref mim, .int km_, .int si_, .ref msi, .ref mfo, .int fm_, .ref mor, .ref mbo, .ref mma, .ref mbm, .ref mso])), (mki, .inl (V.2.2.1, 7, .inl k)), (mno, .inl (V.2.2.1, 15, .inl (stF day w g))), (mtr, .inl (V.2.2.1, 15, .inl (stF day w g)))]) rfl ?_
              refine g_aload_n X dX11_dull_58 rfl ?_
              refine g_aload_n X dX11_dull_59 rfl ?_
              refine g_get X uwX11 0 rfl rfl 16 (by decide) kl_X11_37 rfl rfl gwX11 dX11_dull_60 ?_
              refine g_bipush X (10) dX11_dull_63 (by decide) ?_
              refine g_iload X dX11_dull_65 rfl ?_
              refine g_imul X dX11_dull_67 ?_
              refine g_toe (x' := nI (10 * a)) (nI_mul' rfl rfl) ?_
              refine g_iload_n X dX11_dull_68 rfl ?_
              refine g_iadd X dX11_dull_69 ?_
              refine g_toe (x' := nI (10 * a + b)) (nI_add' rfl rfl) ?_
              by_cases htk : tOK k day n (10 * a + b)
              · refine g_callVi X (c_X11_teaches_yes V mm mtx mnu mrc mrw mrl mki mwa mle mno mtr mse mba mim msi mfo mor mbo mma mbm mso le_ po_ fa_ rcl_ rle_ n ls_ ba_ km_ si_ fm_ k day w g mtr (10 * a + b) (by omega) (by omega) (by omega) htk) mo_X11_teaches kl_X11_182 [0, 1, 3] [1, 2, 0, 3] rfl (by decide +kernel) rfl rfl (fun _ => Nat.le_of_ble_eq_true rfl) 0 11 rfl rfl (As := [.ref mtr, .int (nI (10 * a + b))]) (st := []) (cs' := (0, 0)) rfl rfl rfl rfl dX11_dull_70 (fun r_53 u_49 hp_50 ws_52 hw_51 => ?_)
                obtain rfl : r_53 = 1 := hp_50
                have hw_51x : ws_52 = [(mm, .inr (11, [.int le_, .ref mtx, .int po_, .ref mnu, .int fa_, .int rcl_, .int rle_, .ref mrc, .ref mrw, .ref mrl, .int (nI n), .ref mki, .ref mwa, .int ls_, .ref mle, .ref mno, .ref mtr, .ref mse, .ref mba, .int ba_, .ref mim, .int km_, .int si_, .ref msi, .ref mfo, .int fm_, .ref mor, .ref mbo, .ref mma, .ref mbm, .ref mso])), (mki, .inl (V.2.2.1, 7, .inl k)), (mno, .inl (V.2.2.1, 15, .inl (stF day w g))), (mtr, .inl (V.2.2.1, 15, .inl (stF day (tLe k day (10 * a + b) w) g)))] := hw_51.symm
                clear hw_51; subst hw_51x
                refine g_if_eq X 101 dX11_dull_73 (by decide) (fun c73_54 => absurd c73_54 (by decide)) (fun c73_54 => ?_)
                refine g_aload_n X dX11_dull_76 rfl ?_
                refine g_get X uwX11 0 rfl rfl 16 (by decide) kl_X11_37 rfl rfl gwX11 dX11_dull_77 ?_
                refine g_iconst X (1) dX11_dull_80 (by decide) ?_
                refine g_iload_n X dX11_dull_81 rfl ?_
                refine g_iadd X dX11_dull_82 ?_
                refine g_toe (x' := nI (1 + b)) (nI_add' rfl rfl) ?_
                refine g_iald' X 3 rfl (i := (1 + b)) rfl (by omega) (by omega) dX11_dull_83 ?_
                refine g_toe (x' := (tLe k day (10 * a + b) w) b) (stF_w _ _ _ b (by omega)) ?_
                refine g_callSi X (c_X11_far V ((tLe k day (10 * a + b) w) b)) mo_X11_far kl_X11_151 [] [0, 0, 0, 0] rfl (by decide +kernel) rfl rfl (fun _ => Nat.le_of_ble_eq_true rfl) (As := [.int ((tLe k day (10 * a + b) w) b)]) (st := []) (cs' := (0, 0)) rfl rfl rfl dX11_dull_84 (fun r_59 u_55 hp_56 ws_58 hw_57 => ?_)
                obtain rfl : r_59 = absF ((tLe k day (10 * a + b) w) b) := hp_56
                have hw_57x : ws_58 = [(mm, .inr (11, [.int le_, .ref mtx, .int po_, .ref mnu, .int fa_, .int rcl_, .int rle_, .ref mrc, .ref mrw, .ref mrl, .int (nI n), .ref mki, .ref mwa, .int ls_, .ref mle, .ref mno, .ref mtr, .ref mse, .ref mba, .int ba_, .ref mim, .int km_, .int si_, .ref msi, .ref mfo, .int fm_, .ref mor, .ref mbo, .ref mma, .ref mbm, .ref mso])), (mki, .inl (V.2.2.1, 7, .inl k)), (mno, .inl (V.2.2.1, 15, .inl (stF day w g))), (mtr, .inl (V.2.2.1, 15, .inl (stF day (tLe k day (10 * a + b) w) g)))] := hw_57.symm
                clear hw_57; subst hw_57x
                refine g_aload_n X dX11_dull_87 rfl ?_
                refine g_get X uwX11 0 rfl rfl 15 (by decide) kl_X11_34 rfl rfl gwX11 dX11_dull_88 ?_
                refine g_iconst X (1) dX11_dull_91 (by decide) ?_
                refine g_iload_n X dX11_dull_92 rfl ?_
                refine g_iadd X dX11_dull_93 ?_
                refine g_toe (x' := nI (1 + b)) (nI_add' rfl rfl) ?_
                refine g_iald' X 2 rfl (i := (1 + b)) rfl (by omega) (by omega) dX11_dull_94 ?_
                refine g_toe (x' := w b) (stF_w _ _ _ b (by omega)) ?_
                refine g_callSi X (c_X11_far V (w b)) mo_X11_far kl_X11_151 [] [0, 0, 0, 0] rfl (by decide +kernel) rfl rfl (fun _ => Nat.le_of_ble_eq_true rfl) (As := [.int (w b)]) (st := [.int (absF ((tLe k day (10 * a + b) w) b))]) (cs' := (0, 0)) rfl rfl rfl dX11_dull_95 (fun r_64 u_60 hp_61 ws_63 hw_62 => ?_)
                obtain rfl : r_64 = absF (w b) := hp_61
                have hw_62x : ws_63 = [(mm, .inr (11, [.int le_, .ref mtx, .int po_, .ref mnu, .int fa_, .int rcl_, .int rle_, .ref mrc, .ref mrw, .ref mrl, .int (nI n), .ref mki, .ref mwa, .int ls_, .ref mle, .ref mno, .ref mtr, .ref mse, .ref mba, .int ba_, .ref mim, .int km_, .int si_, .ref msi, .ref mfo, .int fm_, .ref mor, .ref mbo, .ref mma, .ref mbm, .ref mso])), (mki, .inl (V.2.2.1, 7, .inl k)), (mno, .inl (V.2.2.1, 15, .inl (stF day w g))), (mtr, .inl (V.2.2.1, 15, .inl (stF day (tLe k day (10 * a + b) w) g)))] := hw_62.symm
                clear hw_62; subst hw_62x
                refine g_icmp_lt X 105 dX11_dull_98 (by decide) (fun c98_65 => ?_) (fun c98_65 => ?_)
                · have c98_65d := Int32.not_le.mpr c98_65
                  refine g_iconst X (0) dX11_dull_105 (by decide) ?_
                  refine g_istore_n X (L' := [some (.ref mm), some (.int bi), some (.int (nI b)), some (.int 0), some (.int (nI a))]) dX11_dull_106 (by decide) rfl rfl ?_
                  refine g_iinc X (v := nI (a + 1)) (L' := [some (.ref mm), some (.int bi), some (.int (nI b)), some (.int 0), some (.int (nI (a + 1)))]) dX11_dull_107 rfl (nI_addk (by decide)) (by decide) rfl rfl ?_
                  refine g_goto X 32 dX11_dull_110 (by decide) ?_
                  exact ih32 (a + 1) (by omega) 0 (stF day (tLe k day (10 * a + b) w) g) (by rw [dl_s (by rw [← h2]; exact c42_42), dl_y hB hn (by omega) (by omega) htk, if_pos c98_65])
                · have c98_65d := Int32.not_lt.mp c98_65
                  refine g_iconst X (1) dX11_dull_101 (by decide) ?_
                  refine g_goto X 106 dX11_dull_102 (by decide) ?_
                  refine g_istore_n X (L' := [some (.ref mm), some (.int bi), some (.int (nI b)), some (.int 1), some (.int (nI a))]) dX11_dull_106 (by decide) rfl rfl ?_
                  refine g_iinc X (v := nI (a + 1)) (L' := [some (.ref mm), some (.int bi), some (.int (nI b)), some (.int 1), some (.int (nI (a + 1)))]) dX11_dull_107 rfl (nI_addk (by decide)) (by decide) rfl rfl ?_
                  refine g_goto X 32 dX11_dull_110 (by decide) ?_
                  exact ih32 (a + 1) (by omega) 1 (stF day (tLe k day (10 * a + b) w) g) (by rw [dl_s (by rw [← h2]; exact c42_42), dl_y hB hn (by omega) (by omega) htk, if_neg c98_65])
              · refine g_callVi X (c_X11_teaches_no V mm mtx mnu mrc mrw mrl mki mwa mle mno mtr mse mba mim msi mfo mor mbo mma mbm mso le_ po_ fa_ rcl_ rle_ n ls_ ba_ km_ si_ fm_ k day w g mtr (10 * a + b) (by omega) (by omega) htk) mo_X11_teaches kl_X11_182 [0, 1, 3] [1, 2, 0, 3] rfl (by decide +kernel) rfl rfl (fun _ => Nat.le_of_ble_eq_true rfl) 0 11 rfl rfl (As := [.ref mtr, .int (nI (10 * a + b))]) (st := []) (cs' := (0, 0)) rfl rfl rfl rfl dX11_dull_70 (fun r_70 u_66 hp_67 ws_69 hw_68 => ?_)
                obtain rfl : r_70 = 0 := hp_67
                have hw_68x : ws_69 = [(mm, .inr (11, [.int le_, .ref mtx, .int po_, .ref mnu, .int fa_, .int rcl_, .int rle_, .ref mrc, .ref mrw, .ref mrl, .int (nI n), .ref mki, .ref mwa, .int ls_, .ref mle, .ref mno, .ref mtr, .ref mse, .ref mba, .int ba_, .ref mim, .int km_, .int si_, .ref msi, .ref mfo, .int fm_, .ref mor, .ref mbo, .ref mma, .ref mbm, .ref mso])), (mki, .inl (V.2.2.1, 7, .inl k)), (mno, .inl (V.2.2.1, 15, .inl (stF day w g))), (mtr, .inl (V.2.2.1, 15, .inl (stF day w g)))] := hw_68.symm
                clear hw_68; subst hw_68x
                refine g_if_eq X 101 dX11_dull_73 (by decide) (fun c73_71 => ?_) (fun c73_71 => absurd (by decide) c73_71)
                refine g_iconst X (1) dX11_dull_101 (by decide) ?_
                refine g_goto X 106 dX11_dull_102 (by decide) ?_
                refine g_istore_n X (L' := [some (.ref mm), some (.int bi), some (.int (nI b)), some (.int 1), some (.int (nI a))]) dX11_dull_106 (by decide) rfl rfl ?_
                refine g_iinc X (v := nI (a + 1)) (L' := [some (.ref mm), some (.int bi), some (.int (nI b)), some (.int 1), some (.int (nI (a + 1)))]) dX11_dull_107 rfl (nI_addk (by decide)) (by decide) rfl rfl ?_
                refine g_goto X 32 dX11_dull_110 (by decide) ?_
                exact ih32 (a + 1) (by omega) 1 (stF day w g) (by rw [dl_s (by rw [← h2]; exact c42_42), dl_no hn (by omega) (by omega) htk])
        exact loop32_38 n 0 (by omega) 1 tr1 (by rw [dlF, if_neg c20_3]; rfl)
  exact loop4 n 0 (by omega) 0 tr rfl

set_option maxHeartbeats 4000000 in
set_option maxRecDepth 100000 in
theorem w_child_bad (V : gV) (mm : Nat) (mtx : Nat) (mnu : Nat) (mrc : Nat) (mrw : Nat) (mrl : Nat) (mki : Nat) (mwa : Nat) (mle : Nat) (mno : Nat) (mtr : Nat) (mse : Nat) (mba : Nat) (mim : Nat) (msi : Nat) (mfo : Nat) (mor : Nat) (mbo : Nat) (mma : Nat) (mbm : Nat) (mso : Nat) (le_ : Int32) (po_ : Int32) (fa_ : Int32) (rcl_ : Int32) (rle_ : Int32) (n : Nat) (ls_ : Int32) (ba_ : Int32) (km_ : Int32) (si_ : Int32) (fm_ : Int32) (c : Int32) (hn : n ≤ 7) (h1n : 1 ≤ n) (hbad : ¬ okC n c) : Ki V yX11_child cX11_child 6 .int ({ frames := 2, cells := 0, slots := 0, locals := 43 }) [.ref mm, .int c] [(mm, .inr (11, [.int le_, .ref mtx, .int po_, .ref mnu, .int fa_, .int rcl_, .int rle_, .ref mrc, .ref mrw, .ref mrl, .int (nI n), .ref mki, .ref mwa, .int ls_, .ref mle, .ref mno, .ref mtr, .ref mse, .ref mba, .int ba_, .ref mim, .int km_, .int si_, .ref msi, .ref mfo, .int fm_, .ref mor, .ref mbo, .ref mma, .ref mbm, .ref mso]))] (fun (r : Int32) (u : Unit) => r = -1) (fun u => [(mm, .inr (11, [.int le_, .ref mtx, .int po_, .ref mnu, .int fa_, .int rcl_, .int rle_, .ref mrc, .ref mrw, .ref mrl, .int (nI n), .ref mki, .ref mwa, .int ls_, .ref mle, .ref mno, .ref mtr, .ref mse, .ref mba, .int ba_, .ref mim, .int km_, .int si_, .ref msi, .ref mfo, .int fm_, .ref mor, .ref mbo, .ref mma, .ref mbm, .ref mso]))]) := by
  refine Ki.of [some (.ref mm), some (.int c), none, none, none, none] (by decide) (Nat.le_of_ble_eq_true rfl) rfl rfl ?_
  intro Z X E
  have X : gX V Z RX11 cX11_child 6 ({ frames := 2, cells := 0, slots := 0, locals := 43 }) := X
  refine g_aload_n X dX11_child_0 rfl ?_
  refine g_iload_n X dX11_child_1 rfl ?_
  refine g_callVi X (c_X11_isClock V mm mtx mnu mrc mrw mrl mki mwa mle mno mtr mse mba mim msi mfo mor mbo mma mbm mso le_ po_ fa_ rcl_ rle_ n ls_ ba_ km_ si_ fm_ c (by omega) (by omega)) mo_X11_isClock kl_X11_134 [0] [1] rfl (by decide +kernel) rfl rfl (fun _ => Nat.le_of_ble_eq_true rfl) 0 11 rfl rfl (As := [.int c]) (st := []) (cs' := (0, 0)) rfl rfl rfl rfl dX11_child_2 (fun r_5 u_1 hp_2 ws_4 hw_3 => ?_)
  obtain rfl : r_5 = (if okC n c then 1 else 0) := hp_2
  have hw_3x : ws_4 = [(mm, .inr (11, [.int le_, .ref mtx, .int po_, .ref mnu, .int fa_, .int rcl_, .int rle_, .ref mrc, .ref mrw, .ref mrl, .int (nI n), .ref mki, .ref mwa, .int ls_, .ref mle, .ref mno, .ref mtr, .ref mse, .ref mba, .int ba_, .ref mim, .int km_, .int si_, .ref msi, .ref mfo, .int fm_, .ref mor, .ref mbo, .ref mma, .ref mbm, .ref mso]))] := hw_3.symm
  clear hw_3; subst hw_3x
  refine g_if_ne X 10 dX11_child_5 (by decide) (fun c5_6 => absurd (by rw [if_neg hbad]) c5_6) (fun c5_6 => ?_)
  refine g_iconst X (-1) dX11_child_8 (by decide) ?_
  exact g_iret X E dX11_child_9 () (-1) (by first | rfl | (simp [c5_6]; done)) rfl

set_option maxHeartbeats 4000000 in
set_option maxRecDepth 100000 in
theorem w_child_ok (V : gV) (mm : Nat) (mtx : Nat) (mnu : Nat) (mrc : Nat) (mrw : Nat) (mrl : Nat) (mki : Nat) (mwa : Nat) (mle : Nat) (mno : Nat) (mtr : Nat) (mse : Nat) (mba : Nat) (mim : Nat) (msi : Nat) (mfo : Nat) (mor : Nat) (mbo : Nat) (mma : Nat) (mbm : Nat) (mso : Nat) (le_ : Int32) (po_ : Int32) (fa_ : Int32) (rcl_ : Int32) (rle_ : Int32) (n : Nat) (ls_ : Int32) (ba_ : Int32) (km_ : Int32) (si_ : Int32) (fm_ : Int32) (day : Int32) (w : Nat → Int32) (g : Nat → Int32) (c : Nat) (hn : n ≤ 7) (h1n : 1 ≤ n) (hc : c < n) (hB : Bd n w) : Ki V yX11_child cX11_child 6 .int ({ frames := 2, cells := 0, slots := 0, locals := 43 }) [.ref mm, .int (nI c)] [(mm, .inr (11, [.int le_, .ref mtx, .int po_, .ref mnu, .int fa_, .int rcl_, .int rle_, .ref mrc, .ref mrw, .ref mrl, .int (nI n), .ref mki, .ref mwa, .int ls_, .ref mle, .ref mno, .ref mtr, .ref mse, .ref mba, .int ba_, .ref mim, .int km_, .int si_, .ref msi, .ref mfo, .int fm_, .ref mor, .ref mbo, .ref mma, .ref mbm, .ref mso])), (mno, .inl (V.2.2.1, 15, .inl (stF day w g)))] (fun (r : Int32) (u : Unit) => r = chiF n w c) (fun u => [(mm, .inr (11, [.int le_, .ref mtx, .int po_, .ref mnu, .int fa_, .int rcl_, .int rle_, .ref mrc, .ref mrw, .ref mrl, .int (nI n), .ref mki, .ref mwa, .int ls_, .ref mle, .ref mno, .ref mtr, .ref mse, .ref mba, .int ba_, .ref mim, .int km_, .int si_, .ref msi, .ref mfo, .int fm_, .ref mor, .ref mbo, .ref mma, .ref mbm, .ref mso])), (mno, .inl (V.2.2.1, 15, .inl (stF day w g)))]) := by
  refine Ki.of [some (.ref mm), some (.int (nI c)), none, none, none, none] (by decide) (Nat.le_of_ble_eq_true rfl) rfl rfl ?_
  intro Z X E
  have X : gX V Z RX11 cX11_child 6 ({ frames := 2, cells := 0, slots := 0, locals := 43 }) := X
  refine g_aload_n X dX11_child_0 rfl ?_
  refine g_iload_n X dX11_child_1 rfl ?_
  refine g_callVi X (c_X11_isClock V mm mtx mnu mrc mrw mrl mki mwa mle mno mtr mse mba mim msi mfo mor mbo mma mbm mso le_ po_ fa_ rcl_ rle_ n ls_ ba_ km_ si_ fm_ (nI c) (by omega) (by omega)) mo_X11_isClock kl_X11_134 [0] [1, 0] rfl (by decide +kernel) rfl rfl (fun _ => Nat.le_of_ble_eq_true rfl) 0 11 rfl rfl (As := [.int (nI c)]) (st := []) (cs' := (0, 0)) rfl rfl rfl rfl dX11_child_2 (fun r_5 u_1 hp_2 ws_4 hw_3 => ?_)
  obtain rfl : r_5 = (if okC n (nI c) then 1 else 0) := hp_2
  have hw_3x : ws_4 = [(mm, .inr (11, [.int le_, .ref mtx, .int po_, .ref mnu, .int fa_, .int rcl_, .int rle_, .ref mrc, .ref mrw, .ref mrl, .int (nI n), .ref mki, .ref mwa, .int ls_, .ref mle, .ref mno, .ref mtr, .ref mse, .ref mba, .int ba_, .ref mim, .int km_, .int si_, .ref msi, .ref mfo, .int fm_, .ref mor, .ref mbo, .ref mma, .ref mbm, .ref mso])), (mno, .inl (V.2.2.1, 15, .inl (stF day w g)))] := hw_3.symm
  clear hw_3; subst hw_3x
  refine g_if_ne X 10 dX11_child_5 (by decide) (fun c5_6 => ?_) (fun c5_6 => absurd c5_6 (by rw [if_pos (okC_nI hc (by omega))]; decide))
  refine g_bipush X (-4) dX11_child_10 (by decide) ?_
  refine g_istore_n X (L' := [some (.ref mm), some (.int (nI c)), some (.int (-4)), none, none, none]) dX11_child_12 (by decide) rfl rfl ?_
  refine g_sipush X (9999) dX11_child_13 (by decide) ?_
  refine g_istore_n X (L' := [some (.ref mm), some (.int (nI c)), some (.int (-4)), some (.int 9999), none, none]) dX11_child_16 (by decide) rfl rfl ?_
  refine g_iconst X (0) dX11_child_17 (by decide) ?_
  refine g_istore X (L' := [some (.ref mm), some (.int (nI c)), some (.int (-4)), some (.int 9999), some (.int 0), none]) dX11_child_18 (by decide) rfl rfl ?_
  have loop20_7 : ∀ (d20 i : Nat), i + d20 = n → ∀ (be : Int32) (fe : Int32) (h1 : be = (it (chiS w c) i (-4, 0)).1) (h2 : fe = if (it (chiS w c) i (-4, 0)).1 = -4 then 9999 else (it (chiS w c) i (-4, 0)).2), G V Z 6 (0, 0) [(mm, .inr (11, [.int le_, .ref mtx, .int po_, .ref mnu, .int fa_, .int rcl_, .int rle_, .ref mrc, .ref mrw, .ref mrl, .int (nI n), .ref mki, .ref mwa, .int ls_, .ref mle, .ref mno, .ref mtr, .ref mse, .ref mba, .int ba_, .ref mim, .int km_, .int si_, .ref msi, .ref mfo, .int fm_, .ref mor, .ref mbo, .ref mma, .ref mbm, .ref mso])), (mno, .inl (V.2.2.1, 15, .inl (stF day w g)))] 20 [some (.ref mm), some (.int (nI c)), some (.int be), some (.int fe), some (.int (nI i)), none] [] := by
    intro d20
    induction d20 with
    | zero =>
      intro i hi be fe h1 h2
      refine g_iload X dX11_child_20 rfl ?_
      refine g_aload_n X dX11_child_22 rfl ?_
      refine g_get X uwX11 0 rfl rfl 10 (by decide) kl_X11_91 rfl rfl gwX11 dX11_child_23 ?_
      refine g_icmp_ge X 76 dX11_child_26 (by decide) (fun c26_8 => ?_) (fun c26_8 => absurd (tge (a := i) (b := n) (by omega) (by omega) (by omega)) c26_8)
      refine g_iload_n X dX11_child_76 rfl ?_
      exact g_iret X E dX11_child_77 () be (by have e : i = n := (by omega); subst e; rw [h1, chiF]) rfl
    | succ d20 ih20 =>
      intro i hi be fe h1 h2
      refine g_iload X dX11_child_20 rfl ?_
      refine g_aload_n X dX11_child_22 rfl ?_
      refine g_get X uwX11 0 rfl rfl 10 (by decide) kl_X11_91 rfl rfl gwX11 dX11_child_23 ?_
      refine g_icmp_ge X 76 dX11_child_26 (by decide) (fun c26_9 => absurd c26_9 (fge (a := i) (b := n) (by omega) (by omega) (by omega))) (fun c26_9 => ?_)
      refine g_aload_n X dX11_child_29 rfl ?_
      refine g_get X uwX11 0 rfl rfl 15 (by decide) kl_X11_34 rfl rfl gwX11 dX11_child_30 ?_
      refine g_iconst X (1) dX11_child_33 (by decide) ?_
      refine g_iload X dX11_child_34 rfl ?_
      refine g_iadd X dX11_child_36 ?_
      refine g_toe (x' := nI (1 + i)) (nI_add' rfl rfl) ?_
      refine g_iald' X 1 rfl (i := (1 + i)) rfl (by omega) (by omega) dX11_child_37 ?_
      refine g_toe (x' := w i) (stF_w _ _ _ i (by omega)) ?_
      refine g_aload_n X dX11_child_38 rfl ?_
      refine g_get X uwX11 0 rfl rfl 15 (by decide) kl_X11_34 rfl rfl gwX11 dX11_child_39 ?_
      refine g_iconst X (1) dX11_child_42 (by decide) ?_
      refine g_iload_n X dX11_child_43 rfl ?_
      refine g_iadd X dX11_child_44 ?_
      refine g_toe (x' := nI (1 + c)) (nI_add' rfl rfl) ?_
      refine g_iald' X 1 rfl (i := (1 + c)) rfl (by omega) (by omega) dX11_child_45 ?_
      refine g_toe (x' := w c) (stF_w _ _ _ c (by omega)) ?_
      refine g_isub X dX11_child_46 ?_
      refine g_callSi X (c_X11_far V ((w i) - (w c))) mo_X11_far kl_X11_151 [] [0, 0] rfl (by decide +kernel) rfl rfl (fun _ => Nat.le_of_ble_eq_true rfl) (As := [.int ((w i) - (w c))]) (st := []) (cs' := (0, 0)) rfl rfl rfl dX11_child_47 (fun r_14 u_10 hp_11 ws_13 hw_12 => ?_)
      obtain rfl : r_14 = absF ((w i) - (w c)) := hp_11
      have hw_12x : ws_13 = [(mm, .inr (11, [.int le_, .ref mtx, .int po_, .ref mnu, .int fa_, .int rcl_, .int rle_, .ref mrc, .ref mrw, .ref mrl, .int (nI n), .ref mki, .ref mwa, .int ls_, .ref mle, .ref mno, .ref mtr, .ref mse, .ref mba, .int ba_, .ref mim, .int km_, .int si_, .ref msi, .ref mfo, .int fm_, .ref mor, .ref mbo, .ref mma, .ref mbm, .ref mso])), (mno, .inl (V.2.2.1, 15, .inl (stF day w g)))] := hw_12.symm
      clear hw_12; subst hw_12x
      refine g_toe (x' := apartF w c i) (abs_sym hB (by omega) (by omega)) ?_
      refine g_istore X (L' := [some (.ref mm), some (.int (nI c)), some (.int be), some (.int fe), some (.int (nI i)), some (.int (apartF w c i))]) dX11_child_50 (by decide) rfl rfl ?_
      refine g_iload X dX11_child_52 rfl ?_
      refine g_iload_n X dX11_child_54 rfl ?_
      refine g_icmp_eq X 70 dX11_child_55 (by decide) (fun c55_15 => ?_) (fun c55_15 => ?_)
      · have c55_15n := ieq' (a := i) (b := c) c55_15 (by omega) (by omega)
        refine g_iinc X (v := nI (i + 1)) (L' := [some (.ref mm), some (.int (nI c)), some (.int be), some (.int fe), some (.int (nI (i + 1))), some (.int (apartF w c i))]) dX11_child_70 rfl (nI_addk (by decide)) (by decide) rfl rfl ?_
        refine g_goto X 20 dX11_child_73 (by decide) ?_
        refine g_sub (L' := [some (.ref mm), some (.int (nI c)), some (.int be), some (.int fe), some (.int (nI (i + 1))), none]) ⟨rfl, ⟨rfl, ⟨rfl, ⟨rfl, ⟨rfl, trivial⟩⟩⟩⟩⟩ ?_
        exact ih20 (i + 1) (by omega) be fe (by rw [it_s, chi_s1 c55_15n]; exact h1) (by rw [it_s, chi_s1 c55_15n]; exact h2)
      · have c55_15n := ine' (a := i) (b := c) c55_15 (by omega) (by omega)
        refine g_iload X dX11_child_58 rfl ?_
        refine g_iload_n X dX11_child_60 rfl ?_
        refine g_icmp_ge X 70 dX11_child_61 (by decide) (fun c61_16 => ?_) (fun c61_16 => ?_)
        · have c61_16d := Int32.not_lt.mpr c61_16
          refine g_iinc X (v := nI (i + 1)) (L' := [some (.ref mm), some (.int (nI c)), some (.int be), some (.int fe), some (.int (nI (i + 1))), some (.int (apartF w c i))]) dX11_child_70 rfl (nI_addk (by decide)) (by decide) rfl rfl ?_
          refine g_goto X 20 dX11_child_73 (by decide) ?_
          refine g_sub (L' := [some (.ref mm), some (.int (nI c)), some (.int be), some (.int fe), some (.int (nI (i + 1))), none]) ⟨rfl, ⟨rfl, ⟨rfl, ⟨rfl, ⟨rfl, trivial⟩⟩⟩⟩⟩ ?_
          exact ih20 (i + 1) (by omega) be fe (by rw [it_s, chi_s3 h2 c55_15n (apart_lt hB (by omega) (by omega)) (Int32.not_lt.mpr c61_16)]; exact h1) (by rw [it_s, chi_s3 h2 c55_15n (apart_lt hB (by omega) (by omega)) (Int32.not_lt.mpr c61_16)]; exact h2)
        · have c61_16d := Int32.not_le.mp c61_16
          refine g_iload X dX11_child_64 rfl ?_
          refine g_istore_n X (L' := [some (.ref mm), some (.int (nI c)), some (.int (nI i)), some (.int fe), some (.int (nI i)), some (.int (apartF w c i))]) dX11_child_66 (by decide) rfl rfl ?_
          refine g_iload X dX11_child_67 rfl ?_
          refine g_istore_n X (L' := [some (.ref mm), some (.int (nI c)), some (.int (nI i)), some (.int (apartF w c i)), some (.int (nI i)), some (.int (apartF w c i))]) dX11_child_69 (by decide) rfl rfl ?_
          refine g_iinc X (v := nI (i + 1)) (L' := [some (.ref mm), some (.int (nI c)), some (.int (nI i)), some (.int (apartF w c i)), some (.int (nI (i + 1))), some (.int (apartF w c i))]) dX11_child_70 rfl (nI_addk (by decide)) (by decide) rfl rfl ?_
          refine g_goto X 20 dX11_child_73 (by decide) ?_
          refine g_sub (L' := [some (.ref mm), some (.int (nI c)), some (.int (nI i)), some (.int (apartF w c i)), some (.int (nI (i + 1))), none]) ⟨rfl, ⟨rfl, ⟨rfl, ⟨rfl, ⟨rfl, trivial⟩⟩⟩⟩⟩ ?_
          exact ih20 (i + 1) (by omega) (nI i) (apartF w c i) (by rw [it_s, chi_s2 h2 c55_15n c61_16d]) (by rw [it_s, chi_s2 h2 c55_15n c61_16d]; exact (if_neg (nI_n4 (by omega))).symm)
  exact loop20_7 n 0 (by omega) (-4) 9999 rfl (if_pos rfl).symm

set_option maxHeartbeats 4000000 in
set_option maxRecDepth 100000 in
theorem w_year_bad (V : gV) (mm : Nat) (mtx : Nat) (mnu : Nat) (mrc : Nat) (mrw : Nat) (mrl : Nat) (mki : Nat) (mwa : Nat) (mle : Nat) (mno : Nat) (mtr : Nat) (mse : Nat) (mba : Nat) (mim : Nat) (msi : Nat) (mfo : Nat) (mor : Nat) (mbo : Nat) (mma : Nat) (mbm : Nat) (mso : Nat) (le_ : Int32) (po_ : Int32) (fa_ : Int32) (rcl_ : Int32) (rle_ : Int32) (cl_ : Int32) (ls_ : Int32) (ba_ : Int32) (km_ : Int32) (si_ : Int32) (fm_ : Int32) (z : Int32) (v : Int32) (y : Int32) (hbad : ¬ (¬ z < 0 ∧ ¬ 9999 < z ∧ ¬ v < 1 ∧ ¬ 60 < v ∧ ¬ y < 0 ∧ ¬ 1 < y)) : Ki V yX11_year cX11_year 8 .int ({ frames := 1, cells := 0, slots := 0, locals := 22 }) [.ref mm, .int z, .int v, .int y] [(mm, .inr (11, [.int le_, .ref mtx, .int po_, .ref mnu, .int fa_, .int rcl_, .int rle_, .ref mrc, .ref mrw, .ref mrl, .int cl_, .ref mki, .ref mwa, .int ls_, .ref mle, .ref mno, .ref mtr, .ref mse, .ref mba, .int ba_, .ref mim, .int km_, .int si_, .ref msi, .ref mfo, .int fm_, .ref mor, .ref mbo, .ref mma, .ref mbm, .ref mso]))] (fun (r : Int32) (u : Unit) => r = -1) (fun u => [(mm, .inr (11, [.int le_, .ref mtx, .int po_, .ref mnu, .int fa_, .int rcl_, .int rle_, .ref mrc, .ref mrw, .ref mrl, .int cl_, .ref mki, .ref mwa, .int ls_, .ref mle, .ref mno, .ref mtr, .ref mse, .ref mba, .int ba_, .ref mim, .int km_, .int si_, .ref msi, .ref mfo, .int fm_, .ref mor, .ref mbo, .ref mma, .ref mbm, .ref mso]))]) := by
  refine Ki.of [some (.ref mm), some (.int z), some (.int v), some (.int y), none, none, none, none] (by decide) (Nat.le_of_ble_eq_true rfl) rfl rfl ?_
  intro Z X E
  have X : gX V Z RX11 cX11_year 8 ({ frames := 1, cells := 0, slots := 0, locals := 22 }) := X
  refine g_iload_n X dX11_year_0 rfl ?_
  refine g_iconst X (0) dX11_year_1 (by decide) ?_
  refine g_sipush X (9999) dX11_year_2 (by decide) ?_
  refine g_callSi X (c_X11_in V z 0 9999) mo_X11_in kl_X11_94 [] [0] rfl (by decide +kernel) rfl rfl (fun _ => Nat.le_of_ble_eq_true rfl) (As := [.int z, .int 0, .int 9999]) (st := []) (cs' := (0, 0)) rfl rfl rfl dX11_year_5 (fun r_5 u_1 hp_2 ws_4 hw_3 => ?_)
  obtain rfl : r_5 = inF z 0 9999 := hp_2
  have hw_3x : ws_4 = [(mm, .inr (11, [.int le_, .ref mtx, .int po_, .ref mnu, .int fa_, .int rcl_, .int rle_, .ref mrc, .ref mrw, .ref mrl, .int cl_, .ref mki, .ref mwa, .int ls_, .ref mle, .ref mno, .ref mtr, .ref mse, .ref mba, .int ba_, .ref mim, .int km_, .int si_, .ref msi, .ref mfo, .int fm_, .ref mor, .ref mbo, .ref mma, .ref mbm, .ref mso]))] := hw_3.symm
  clear hw_3; subst hw_3x
  refine g_if_eq X 30 dX11_year_8 (by decide) (fun c8_6 => ?_) (fun c8_6 => ?_)
  · refine g_iconst X (-1) dX11_year_30 (by decide) ?_
    exact g_iret X E dX11_year_31 () (-1) (by first | rfl | (simp [c8_6]; done)) rfl
  · refine g_iload_n X dX11_year_11 rfl ?_
    refine g_iconst X (1) dX11_year_12 (by decide) ?_
    refine g_bipush X (60) dX11_year_13 (by decide) ?_
    refine g_callSi X (c_X11_in V v 1 60) mo_X11_in kl_X11_94 [] [0] rfl (by decide +kernel) rfl rfl (fun _ => Nat.le_of_ble_eq_true rfl) (As := [.int v, .int 1, .int 60]) (st := []) (cs' := (0, 0)) rfl rfl rfl dX11_year_15 (fun r_11 u_7 hp_8 ws_10 hw_9 => ?_)
    obtain rfl : r_11 = inF v 1 60 := hp_8
    have hw_9x : ws_10 = [(mm, .inr (11, [.int le_, .ref mtx, .int po_, .ref mnu, .int fa_, .int rcl_, .int rle_, .ref mrc, .ref mrw, .ref mrl, .int cl_, .ref mki, .ref mwa, .int ls_, .ref mle, .ref mno, .ref mtr, .ref mse, .ref mba, .int ba_, .ref mim, .int km_, .int si_, .ref msi, .ref mfo, .int fm_, .ref mor, .ref mbo, .ref mma, .ref mbm, .ref mso]))] := hw_9.symm
    clear hw_9; subst hw_9x
    refine g_if_eq X 30 dX11_year_18 (by decide) (fun c18_12 => ?_) (fun c18_12 => ?_)
    · refine g_iconst X (-1) dX11_year_30 (by decide) ?_
      exact g_iret X E dX11_year_31 () (-1) (by first | rfl | (simp [c8_6, c18_12]; done)) rfl
    · refine g_iload_n X dX11_year_21 rfl ?_
      refine g_iconst X (0) dX11_year_22 (by decide) ?_
      refine g_iconst X (1) dX11_year_23 (by decide) ?_
      refine g_callSi X (c_X11_in V y 0 1) mo_X11_in kl_X11_94 [] [0] rfl (by decide +kernel) rfl rfl (fun _ => Nat.le_of_ble_eq_true rfl) (As := [.int y, .int 0, .int 1]) (st := []) (cs' := (0, 0)) rfl rfl rfl dX11_year_24 (fun r_17 u_13 hp_14 ws_16 hw_15 => ?_)
      obtain rfl : r_17 = inF y 0 1 := hp_14
      have hw_15x : ws_16 = [(mm, .inr (11, [.int le_, .ref mtx, .int po_, .ref mnu, .int fa_, .int rcl_, .int rle_, .ref mrc, .ref mrw, .ref mrl, .int cl_, .ref mki, .ref mwa, .int ls_, .ref mle, .ref mno, .ref mtr, .ref mse, .ref mba, .int ba_, .ref mim, .int km_, .int si_, .ref msi, .ref mfo, .int fm_, .ref mor, .ref mbo, .ref mma, .ref mbm, .ref mso]))] := hw_15.symm
      clear hw_15; subst hw_15x
      refine g_if_ne X 32 dX11_year_27 (by decide) (fun c27_18 => ?_) (fun c27_18 => ?_)
      · exact absurd ⟨(inF_of c8_6).1, (inF_of c8_6).2, (inF_of c18_12).1, (inF_of c18_12).2, (inF_of c27_18).1, (inF_of c27_18).2⟩ hbad
      · refine g_iconst X (-1) dX11_year_30 (by decide) ?_
        exact g_iret X E dX11_year_31 () (-1) (by first | rfl | (simp [c8_6, c18_12, c27_18]; done)) rfl

set_option maxHeartbeats 4000000 in
set_option maxRecDepth 100000 in
theorem w_year_0 (V : gV) (mm : Nat) (mtx : Nat) (mnu : Nat) (mrc : Nat) (mrw : Nat) (mrl : Nat) (mki : Nat) (mwa : Nat) (mle : Nat) (mno : Nat) (mtr : Nat) (mse : Nat) (mba : Nat) (mim : Nat) (msi : Nat) (mfo : Nat) (mor : Nat) (mbo : Nat) (mma : Nat) (mbm : Nat) (mso : Nat) (le_ : Int32) (po_ : Int32) (fa_ : Int32) (rcl_ : Int32) (rle_ : Int32) (n : Nat) (m : Nat) (ba_ : Int32) (km_ : Int32) (si_ : Int32) (fm_ : Int32) (k : Nat → Int32) (wb : Nat → Int32) (ld : Nat → Nat) (te : Nat → Nat) (pu : Nat → Nat) (day : Int32) (w : Nat → Int32) (g : Nat → Int32) (tr : Nat → Int32) (so : Nat → Int32) (z : Nat) (v : Nat) (hn : n ≤ 7) (h1n : 1 ≤ n) (hm : m ≤ 9) (ht : ∀ i, i < m → te i < n ∧ pu i < n) (hB : Bd n w) (hz : z ≤ 9999) (hv : 1 ≤ v ∧ v ≤ 60) : Ki V yX11_year cX11_year 8 .int ({ frames := 3, cells := 0, slots := 0, locals := 71 }) [.ref mm, .int (nI z), .int (nI v), .int 0] [(mm, .inr (11, [.int le_, .ref mtx, .int po_, .ref mnu, .int fa_, .int rcl_, .int rle_, .ref mrc, .ref mrw, .ref mrl, .int (nI n), .ref mki, .ref mwa, .int (nI m), .ref mle, .ref mno, .ref mtr, .ref mse, .ref mba, .int ba_, .ref mim, .int km_, .int si_, .ref msi, .ref mfo, .int fm_, .ref mor, .ref mbo, .ref mma, .ref mbm, .ref mso])), (mki, .inl (V.2.2.1, 7, .inl k)), (mwa, .inl (V.2.2.1, 7, .inl wb)), (mle, .inl (V.2.2.1, 27, .inl (leF ld te pu))), (mno, .inl (V.2.2.1, 15, .inl (stF day w g))), (mtr, .inl (V.2.2.1, 15, .inl tr)), (mso, .inl (V.2.2.1, 7, .inl so))] (fun (r : Int32) (u : (Nat → Int32) × (Nat → Int32)) => r = midF n (yrF k wb ld te pu n m g day z v w) + 600) (fun u => [(mm, .inr (11, [.int le_, .ref mtx, .int po_, .ref mnu, .int fa_, .int rcl_, .int rle_, .ref mrc, .ref mrw, .ref mrl, .int (nI n), .ref mki, .ref mwa, .int (nI m), .ref mle, .ref mno, .ref mtr, .ref mse, .ref mba, .int ba_, .ref mim, .int km_, .int si_, .ref msi, .ref mfo, .int fm_, .ref mor, .ref mbo, .ref mma, .ref mbm, .ref mso])), (mki, .inl (V.2.2.1, 7, .inl k)), (mwa, .inl (V.2.2.1, 7, .inl wb)), (mle, .inl (V.2.2.1, 27, .inl (leF ld te pu))), (mno, .inl (V.2.2.1, 15, .inl (stF day w g))), (mtr, .inl (V.2.2.1, 15, .inl u.1)), (mso, .inl (V.2.2.1, 7, .inl u.2))]) := by
  refine Ki.of [some (.ref mm), some (.int (nI z)), some (.int (nI v)), some (.int 0), none, none, none, none] (by decide) (Nat.le_of_ble_eq_true rfl) rfl rfl ?_
  intro Z X E
  have X : gX V Z RX11 cX11_year 8 ({ frames := 3, cells := 0, slots := 0, locals := 71 }) := X
  refine g_iload_n X dX11_year_0 rfl ?_
  refine g_iconst X (0) dX11_year_1 (by decide) ?_
  refine g_sipush X (9999) dX11_year_2 (by decide) ?_
  refine g_callSi X (c_X11_in V (nI z) 0 9999) mo_X11_in kl_X11_94 [] [0, 0, 0, 0, 0, 0, 0] rfl (by decide +kernel) rfl rfl (fun _ => Nat.le_of_ble_eq_true rfl) (As := [.int (nI z), .int 0, .int 9999]) (st := []) (cs' := (0, 0)) rfl rfl rfl dX11_year_5 (fun r_5 u_1 hp_2 ws_4 hw_3 => ?_)
  obtain rfl : r_5 = inF (nI z) 0 9999 := hp_2
  have hw_3x : ws_4 = [(mm, .inr (11, [.int le_, .ref mtx, .int po_, .ref mnu, .int fa_, .int rcl_, .int rle_, .ref mrc, .ref mrw, .ref mrl, .int (nI n), .ref mki, .ref mwa, .int (nI m), .ref mle, .ref mno, .ref mtr, .ref mse, .ref mba, .int ba_, .ref mim, .int km_, .int si_, .ref msi, .ref mfo, .int fm_, .ref mor, .ref mbo, .ref mma, .ref mbm, .ref mso])), (mki, .inl (V.2.2.1, 7, .inl k)), (mwa, .inl (V.2.2.1, 7, .inl wb)), (mle, .inl (V.2.2.1, 27, .inl (leF ld te pu))), (mno, .inl (V.2.2.1, 15, .inl (stF day w g))), (mtr, .inl (V.2.2.1, 15, .inl tr)), (mso, .inl (V.2.2.1, 7, .inl so))] := hw_3.symm
  clear hw_3; subst hw_3x
  refine g_if_eq X 30 dX11_year_8 (by decide) (fun c8_6 => absurd c8_6 (inF_ne (v := z) (lo := 0) (hi := 9999) (by omega) (by omega))) (fun c8_6 => ?_)
  refine g_iload_n X dX11_year_11 rfl ?_
  refine g_iconst X (1) dX11_year_12 (by decide) ?_
  refine g_bipush X (60) dX11_year_13 (by decide) ?_
  refine g_callSi X (c_X11_in V (nI v) 1 60) mo_X11_in kl_X11_94 [] [0, 0, 0, 0, 0, 0, 0] rfl (by decide +kernel) rfl rfl (fun _ => Nat.le_of_ble_eq_true rfl) (As := [.int (nI v), .int 1, .int 60]) (st := []) (cs' := (0, 0)) rfl rfl rfl dX11_year_15 (fun r_11 u_7 hp_8 ws_10 hw_9 => ?_)
  obtain rfl : r_11 = inF (nI v) 1 60 := hp_8
  have hw_9x : ws_10 = [(mm, .inr (11, [.int le_, .ref mtx, .int po_, .ref mnu, .int fa_, .int rcl_, .int rle_, .ref mrc, .ref mrw, .ref mrl, .int (nI n), .ref mki, .ref mwa, .int (nI m), .ref mle, .ref mno, .ref mtr, .ref mse, .ref mba, .int ba_, .ref mim, .int km_, .int si_, .ref msi, .ref mfo, .int fm_, .ref mor, .ref mbo, .ref mma, .ref mbm, .ref mso])), (mki, .inl (V.2.2.1, 7, .inl k)), (mwa, .inl (V.2.2.1, 7, .inl wb)), (mle, .inl (V.2.2.1, 27, .inl (leF ld te pu))), (mno, .inl (V.2.2.1, 15, .inl (stF day w g))), (mtr, .inl (V.2.2.1, 15, .inl tr)), (mso, .inl (V.2.2.1, 7, .inl so))] := hw_9.symm
  clear hw_9; subst hw_9x
  refine g_if_eq X 30 dX11_year_18 (by decide) (fun c18_12 => absurd c18_12 (inF_ne (v := v) (lo := 1) (hi := 60) (by omega) (by omega))) (fun c18_12 => ?_)
  refine g_iload_n X dX11_year_21 rfl ?_
  refine g_iconst X (0) dX11_year_22 (by decide) ?_
  refine g_iconst X (1) dX11_year_23 (by decide) ?_
  refine g_callSi X (c_X11_in V 0 0 1) mo_X11_in kl_X11_94 [] [0, 0, 0, 0, 0, 0, 0] rfl (by decide +kernel) rfl rfl (fun _ => Nat.le_of_ble_eq_true rfl) (As := [.int 0, .int 0, .int 1]) (st := []) (cs' := (0, 0)) rfl rfl rfl dX11_year_24 (fun r_17 u_13 hp_14 ws_16 hw_15 => ?_)
  obtain rfl : r_17 = inF 0 0 1 := hp_14
  have hw_15x : ws_16 = [(mm, .inr (11, [.int le_, .ref mtx, .int po_, .ref mnu, .int fa_, .int rcl_, .int rle_, .ref mrc, .ref mrw, .ref mrl, .int (nI n), .ref mki, .ref mwa, .int (nI m), .ref mle, .ref mno, .ref mtr, .ref mse, .ref mba, .int ba_, .ref mim, .int km_, .int si_, .ref msi, .ref mfo, .int fm_, .ref mor, .ref mbo, .ref mma, .ref mbm, .ref mso])), (mki, .inl (V.2.2.1, 7, .inl k)), (mwa, .inl (V.2.2.1, 7, .inl wb)), (mle, .inl (V.2.2.1, 27, .inl (leF ld te pu))), (mno, .inl (V.2.2.1, 15, .inl (stF day w g))), (mtr, .inl (V.2.2.1, 15, .inl tr)), (mso, .inl (V.2.2.1, 7, .inl so))] := hw_15.symm
  clear hw_15; subst hw_15x
  refine g_if_ne X 32 dX11_year_27 (by decide) (fun c27_18 => ?_) (fun c27_18 => absurd c27_18 (by decide))
  refine g_aload_n X dX11_year_32 rfl ?_
  refine g_get X uwX11 0 rfl rfl 15 (by decide) kl_X11_34 rfl rfl gwX11 dX11_year_33 ?_
  refine g_iconst X (0) dX11_year_36 (by decide) ?_
  refine g_aload_n X dX11_year_37 rfl ?_
  refine g_get X uwX11 0 rfl rfl 16 (by decide) kl_X11_37 rfl rfl gwX11 dX11_year_38 ?_
  refine g_iconst X (0) dX11_year_41 (by decide) ?_
  refine g_callSv X (c_X11_copy V mno 15 (stF day w g) mtr 15 tr 0 0 (by omega) (by omega) (by omega) (by omega)) mo_X11_copy kl_X11_165 [4, 5] [0, 0, 0, 0, 1, 2, 0] rfl (by decide +kernel) rfl rfl (fun _ => Nat.le_of_ble_eq_true rfl) (As := [.ref mno, .int 0, .ref mtr, .int 0]) (st := []) (cs' := (0, 0)) rfl rfl rfl dX11_year_42 (fun u_19 hp_20 ws_22 hw_21 => ?_)
  have hw_21x : ws_22 = [(mm, .inr (11, [.int le_, .ref mtx, .int po_, .ref mnu, .int fa_, .int rcl_, .int rle_, .ref mrc, .ref mrw, .ref mrl, .int (nI n), .ref mki, .ref mwa, .int (nI m), .ref mle, .ref mno, .ref mtr, .ref mse, .ref mba, .int ba_, .ref mim, .int km_, .int si_, .ref msi, .ref mfo, .int fm_, .ref mor, .ref mbo, .ref mma, .ref mbm, .ref mso])), (mki, .inl (V.2.2.1, 7, .inl k)), (mwa, .inl (V.2.2.1, 7, .inl wb)), (mle, .inl (V.2.2.1, 27, .inl (leF ld te pu))), (mno, .inl (V.2.2.1, 15, .inl (stF day w g))), (mtr, .inl (V.2.2.1, 15, .inl (cpM 0 0 (stF day w g) tr))), (mso, .inl (V.2.2.1, 7, .inl so))] := hw_21.symm
  clear hw_21; subst hw_21x
  refine g_arr 5 (stF day w g) rfl cpM_0 (ws' := [(mm, .inr (11, [.int le_, .ref mtx, .int po_, .ref mnu, .int fa_, .int rcl_, .int rle_, .ref mrc, .ref mrw, .ref mrl, .int (nI n), .ref mki, .ref mwa, .int (nI m), .ref mle, .ref mno, .ref mtr, .ref mse, .ref mba, .int ba_, .ref mim, .int km_, .int si_, .ref msi, .ref mfo, .int fm_, .ref mor, .ref mbo, .ref mma, .ref mbm, .ref mso])), (mki, .inl (V.2.2.1, 7, .inl k)), (mwa, .inl (V.2.2.1, 7, .inl wb)), (mle, .inl (V.2.2.1, 27, .inl (leF ld te pu))), (mno, .inl (V.2.2.1, 15, .inl (stF day w g))), (mtr, .inl (V.2.2.1, 15, .inl (stF day w g))), (mso, .inl (V.2.2.1, 7, .inl so))]) rfl ?_
  refine g_iconst X (0) dX11_year_45 (by decide) ?_
  refine g_istore X (L' := [some (.ref mm), some (.int (nI z)), some (.int (nI v)), some (.int 0), some (.int 0), none, none, none]) dX11_year_46 (by decide) rfl rfl ?_
  have loop48_24 : ∀ (d48 i : Nat), i + d48 = v → ∀ (w1 : Nat → Int32) (dy : Int32) (hB6 : Bd n w1) (h6 : w1 = yrF k wb ld te pu n m g day z i w) (h7 : dy = day + nI i), G V Z 8 (0, 0) [(mm, .inr (11, [.int le_, .ref mtx, .int po_, .ref mnu, .int fa_, .int rcl_, .int rle_, .ref mrc, .ref mrw, .ref mrl, .int (nI n), .ref mki, .ref mwa, .int (nI m), .ref mle, .ref mno, .ref mtr, .ref mse, .ref mba, .int ba_, .ref mim, .int km_, .int si_, .ref msi, .ref mfo, .int fm_, .ref mor, .ref mbo, .ref mma, .ref mbm, .ref mso])), (mki, .inl (V.2.2.1, 7, .inl k)), (mwa, .inl (V.2.2.1, 7, .inl wb)), (mle, .inl (V.2.2.1, 27, .inl (leF ld te pu))), (mno, .inl (V.2.2.1, 15, .inl (stF day w g))), (mtr, .inl (V.2.2.1, 15, .inl (stF dy w1 g))), (mso, .inl (V.2.2.1, 7, .inl so))] 48 [some (.ref mm), some (.int (nI z)), some (.int (nI v)), some (.int 0), some (.int (nI i)), none, none, none] [] := by
    intro d48
    induction d48 with
    | zero =>
      intro i hi w1 dy hB6 h6 h7
      refine g_iload X dX11_year_48 rfl ?_
      refine g_iload_n X dX11_year_50 rfl ?_
      refine g_icmp_ge X 148 dX11_year_51 (by decide) (fun c51_25 => ?_) (fun c51_25 => absurd (tge (a := i) (b := v) (by omega) (by omega) (by omega)) c51_25)
      refine g_iload_n X dX11_year_148 rfl ?_
      refine g_if_ne X 167 dX11_year_149 (by decide) (fun c149_26 => absurd (by decide) c149_26) (fun c149_26 => ?_)
      refine g_aload_n X dX11_year_152 rfl ?_
      refine g_aload_n X dX11_year_153 rfl ?_
      refine g_get X uwX11 0 rfl rfl 16 (by decide) kl_X11_37 rfl rfl gwX11 dX11_year_154 ?_
      refine g_callVi X (c_X11_noonOf V mm mtx mnu mrc mrw mrl mki mwa mle mno mtr mse mba mim msi mfo mor mbo mma mbm mso le_ po_ fa_ rcl_ rle_ n (nI m) ba_ km_ si_ fm_ so dy w1 g mtr (by omega) (by omega)) mo_X11_noonOf kl_X11_140 [0, 6, 5] [1, 0, 0, 0, 0, 3, 2] rfl (by decide +kernel) rfl rfl (fun _ => Nat.le_of_ble_eq_true rfl) 0 11 rfl rfl (As := [.ref mtr]) (st := []) (cs' := (0, 0)) rfl rfl rfl rfl dX11_year_157 (fun r_31 ns_27 hp_28 ws_30 hw_29 => ?_)
      obtain rfl : r_31 = midF n w1 := hp_28
      have hw_29x : ws_30 = [(mm, .inr (11, [.int le_, .ref mtx, .int po_, .ref mnu, .int fa_, .int rcl_, .int rle_, .ref mrc, .ref mrw, .ref mrl, .int (nI n), .ref mki, .ref mwa, .int (nI m), .ref mle, .ref mno, .ref mtr, .ref mse, .ref mba, .int ba_, .ref mim, .int km_, .int si_, .ref msi, .ref mfo, .int fm_, .ref mor, .ref mbo, .ref mma, .ref mbm, .ref mso])), (mki, .inl (V.2.2.1, 7, .inl k)), (mwa, .inl (V.2.2.1, 7, .inl wb)), (mle, .inl (V.2.2.1, 27, .inl (leF ld te pu))), (mno, .inl (V.2.2.1, 15, .inl (stF day w g))), (mtr, .inl (V.2.2.1, 15, .inl (stF dy w1 g))), (mso, .inl (V.2.2.1, 7, .inl ns_27))] := hw_29.symm
      clear hw_29; subst hw_29x
      refine g_sipush X (600) dX11_year_160 (by decide) ?_
      refine g_iadd X dX11_year_163 ?_
      refine g_goto X 175 dX11_year_164 (by decide) ?_
      exact g_iret X E dX11_year_175 ⟨stF dy w1 g, ns_27⟩ ((midF n w1) + 600) (by have e : i = v := (by omega); subst e; rw [h6]) rfl
    | succ d48 ih48 =>
      intro i hi w1 dy hB6 h6 h7
      refine g_iload X dX11_year_48 rfl ?_
      refine g_iload_n X dX11_year_50 rfl ?_
      refine g_icmp_ge X 148 dX11_year_51 (by decide) (fun c51_32 => absurd c51_32 (fge (a := i) (b := v) (by omega) (by omega) (by omega))) (fun c51_32 => ?_)
      refine g_ldc2 X kl_X11_203 dX11_year_54 ?_
      refine g_iload_n X dX11_year_57 rfl ?_
      refine g_i2l X dX11_year_58 ?_
      refine g_lmul X dX11_year_59 ?_
      refine g_ldc2 X kl_X11_205 dX11_year_60 ?_
      refine g_iload X dX11_year_63 rfl ?_
      refine g_i2l X dX11_year_65 ?_
      refine g_lmul X dX11_year_66 ?_
      refine g_ladd X dX11_year_67 ?_
      refine g_lconst X 1 dX11_year_68 (by decide) ?_
      refine g_ladd X dX11_year_69 ?_
      refine g_lstore X (L' := [some (.ref mm), some (.int (nI z)), some (.int (nI v)), some (.int 0), some (.int (nI i)), some (.long (((7919 * ((nI z).toInt64)) + (6151 * ((nI i).toInt64))) + 1)), none, none]) dX11_year_70 (by decide) rfl rfl ?_
      refine g_lload X dX11_year_72 rfl ?_
      refine g_lload X dX11_year_74 rfl ?_
      refine g_lmul X dX11_year_76 ?_
      refine g_ldc2 X kl_X11_207 dX11_year_77 ?_
      refine g_lrem X dX11_year_80 (by decide) ?_
      refine g_ldc2 X kl_X11_209 dX11_year_81 ?_
      refine g_ldiv X dX11_year_84 (by decide) ?_
      refine g_l2i X dX11_year_85 ?_
      have hd1 : drN z i < 8191 := by rw [drN]; have := Nat.mod_lt ((7919 * z + 6151 * i + 1) * (7919 * z + 6151 * i + 1)) (show 0 < 65521 by decide); omega
      have hm1 := Nat.mod_lt (drN z i) (show 0 < n by omega)
      have hm2 := Nat.mod_lt (drN z i / 8) (show 0 < n by omega)
      refine g_toe (x' := nI (drN z i)) (draw_eq hz (by omega)) ?_
      refine g_istore X (L' := [some (.ref mm), some (.int (nI z)), some (.int (nI v)), some (.int 0), some (.int (nI i)), some (.long (((7919 * ((nI z).toInt64)) + (6151 * ((nI i).toInt64))) + 1)), none, some (.int (nI (drN z i)))]) dX11_year_86 (by decide) rfl rfl ?_
      refine g_iload X dX11_year_88 rfl ?_
      refine g_aload_n X dX11_year_90 rfl ?_
      refine g_get X uwX11 0 rfl rfl 10 (by decide) kl_X11_91 rfl rfl gwX11 dX11_year_91 ?_
      refine g_rem X dX11_year_94 (feq (a := n) (b := 0) (by omega) (by omega) (by omega)) ?_
      refine g_toe (x' := nI ((drN z i) % n)) (nI_mod' rfl rfl (by omega) (by omega) (by omega)) ?_
      refine g_iload X dX11_year_95 rfl ?_
      refine g_bipush X (8) dX11_year_97 (by decide) ?_
      refine g_idiv X dX11_year_99 (by decide) ?_
      refine g_toe (x' := nI ((drN z i) / 8)) (nI_div' rfl rfl (by omega) (by omega) (by omega)) ?_
      refine g_aload_n X dX11_year_100 rfl ?_
      refine g_get X uwX11 0 rfl rfl 10 (by decide) kl_X11_91 rfl rfl gwX11 dX11_year_101 ?_
      refine g_rem X dX11_year_104 (feq (a := n) (b := 0) (by omega) (by omega) (by omega)) ?_
      refine g_toe (x' := nI (((drN z i) / 8) % n)) (nI_mod' rfl rfl (by omega) (by omega) (by omega)) ?_
      refine g_icmp_eq X 133 dX11_year_105 (by decide) (fun c105_33 => ?_) (fun c105_33 => ?_)
      · have c105_33n := ieq' (a := (drN z i) % n) (b := ((drN z i) / 8) % n) c105_33 (by omega) (by omega)
        refine g_aload_n X dX11_year_133 rfl ?_
        refine g_aload_n X dX11_year_134 rfl ?_
        refine g_get X uwX11 0 rfl rfl 16 (by decide) kl_X11_37 rfl rfl gwX11 dX11_year_135 ?_
        refine g_iconst X (1) dX11_year_138 (by decide) ?_
        refine g_callVv X (c_X11_passOn V mm mtx mnu mrc mrw mrl mki mwa mle mno mtr mse mba mim msi mfo mor mbo mma mbm mso le_ po_ fa_ rcl_ rle_ n m ba_ km_ si_ fm_ k wb ld te pu dy w1 g mtr 1 (by omega) (by omega) (by omega) ht hB6) mo_X11_passOn kl_X11_172 [0, 1, 2, 3, 5] [1, 2, 3, 4, 0, 5, 0] rfl (by decide +kernel) rfl rfl (fun _ => Nat.le_of_ble_eq_true rfl) 0 11 rfl rfl (As := [.ref mtr, .int 1]) (st := []) (cs' := (0, 0)) rfl rfl rfl rfl dX11_year_139 (fun nw_34 hp_35 ws_37 hw_36 => ?_)
        obtain rfl : nw_34 = dayF k wb ld te pu n m g 1 dy w1 := hp_35
        have hw_36x : ws_37 = [(mm, .inr (11, [.int le_, .ref mtx, .int po_, .ref mnu, .int fa_, .int rcl_, .int rle_, .ref mrc, .ref mrw, .ref mrl, .int (nI n), .ref mki, .ref mwa, .int (nI m), .ref mle, .ref mno, .ref mtr, .ref mse, .ref mba, .int ba_, .ref mim, .int km_, .int si_, .ref msi, .ref mfo, .int fm_, .ref mor, .ref mbo, .ref mma, .ref mbm, .ref mso])), (mki, .inl (V.2.2.1, 7, .inl k)), (mwa, .inl (V.2.2.1, 7, .inl wb)), (mle, .inl (V.2.2.1, 27, .inl (leF ld te pu))), (mno, .inl (V.2.2.1, 15, .inl (stF day w g))), (mtr, .inl (V.2.2.1, 15, .inl (stF (dy + 1) (dayF k wb ld te pu n m g 1 dy w1) g))), (mso, .inl (V.2.2.1, 7, .inl so))] := hw_36.symm
        clear hw_36; subst hw_36x
        refine g_iinc X (v := nI (i + 1)) (L' := [some (.ref mm), some (.int (nI z)), some (.int (nI v)), some (.int 0), some (.int (nI (i + 1))), some (.long (((7919 * ((nI z).toInt64)) + (6151 * ((nI i).toInt64))) + 1)), none, some (.int (nI (drN z i)))]) dX11_year_142 rfl (nI_addk (by decide)) (by decide) rfl rfl ?_
        refine g_goto X 48 dX11_year_145 (by decide) ?_
        refine g_sub (L' := [some (.ref mm), some (.int (nI z)), some (.int (nI v)), some (.int 0), some (.int (nI (i + 1))), none, none, none]) ⟨rfl, ⟨rfl, ⟨rfl, ⟨rfl, ⟨rfl, trivial⟩⟩⟩⟩⟩ ?_
        exact ih48 (i + 1) (by omega) (dayF k wb ld te pu n m g 1 dy w1) (dy + 1) Bd_day (by rw [yrF, it_s, ← yrF, ← h6, yrS, ← h7]; simp [c105_33, c105_33n]) (by rw [h7, Int32.add_assoc, nI_1])
      · have c105_33n := ine' (a := (drN z i) % n) (b := ((drN z i) / 8) % n) c105_33 (by omega) (by omega)
        refine g_aload_n X dX11_year_108 rfl ?_
        refine g_aload_n X dX11_year_109 rfl ?_
        refine g_get X uwX11 0 rfl rfl 16 (by decide) kl_X11_37 rfl rfl gwX11 dX11_year_110 ?_
        refine g_iload X dX11_year_113 rfl ?_
        refine g_aload_n X dX11_year_115 rfl ?_
        refine g_get X uwX11 0 rfl rfl 10 (by decide) kl_X11_91 rfl rfl gwX11 dX11_year_116 ?_
        refine g_rem X dX11_year_119 (feq (a := n) (b := 0) (by omega) (by omega) (by omega)) ?_
        refine g_toe (x' := nI ((drN z i) % n)) (nI_mod' rfl rfl (by omega) (by omega) (by omega)) ?_
        refine g_iload X dX11_year_120 rfl ?_
        refine g_bipush X (8) dX11_year_122 (by decide) ?_
        refine g_idiv X dX11_year_124 (by decide) ?_
        refine g_toe (x' := nI ((drN z i) / 8)) (nI_div' rfl rfl (by omega) (by omega) (by omega)) ?_
        refine g_aload_n X dX11_year_125 rfl ?_
        refine g_get X uwX11 0 rfl rfl 10 (by decide) kl_X11_91 rfl rfl gwX11 dX11_year_126 ?_
        refine g_rem X dX11_year_129 (feq (a := n) (b := 0) (by omega) (by omega) (by omega)) ?_
        refine g_toe (x' := nI (((drN z i) / 8) % n)) (nI_mod' rfl rfl (by omega) (by omega) (by omega)) ?_
        refine g_callVv X (c_X11_teachOn V mm mtx mnu mrc mrw mrl mki mwa mle mno mtr mse mba mim msi mfo mor mbo mma mbm mso le_ po_ fa_ rcl_ rle_ n (nI m) ba_ km_ si_ fm_ k dy w1 g mtr ((drN z i) % n) (((drN z i) / 8) % n) (by omega) (by omega) (by omega) hB6) mo_X11_teachOn kl_X11_154 [0, 1, 5] [1, 2, 0, 0, 0, 3, 0] rfl (by decide +kernel) rfl rfl (fun _ => Nat.le_of_ble_eq_true rfl) 0 11 rfl rfl (As := [.ref mtr, .int (nI ((drN z i) % n)), .int (nI (((drN z i) / 8) % n))]) (st := []) (cs' := (0, 0)) rfl rfl rfl rfl dX11_year_130 (fun nw_39 hp_40 ws_42 hw_41 => ?_)
        obtain rfl : nw_39 = learnF k dy ((drN z i) % n) (((drN z i) / 8) % n) w1 := hp_40
        have hw_41x : ws_42 = [(mm, .inr (11, [.int le_, .ref mtx, .int po_, .ref mnu, .int fa_, .int rcl_, .int rle_, .ref mrc, .ref mrw, .ref mrl, .int (nI n), .ref mki, .ref mwa, .int (nI m), .ref mle, .ref mno, .ref mtr, .ref mse, .ref mba, .int ba_, .ref mim, .int km_, .int si_, .ref msi, .ref mfo, .int fm_, .ref mor, .ref mbo, .ref mma, .ref mbm, .ref mso])), (mki, .inl (V.2.2.1, 7, .inl k)), (mwa, .inl (V.2.2.1, 7, .inl wb)), (mle, .inl (V.2.2.1, 27, .inl (leF ld te pu))), (mno, .inl (V.2.2.1, 15, .inl (stF day w g))), (mtr, .inl (V.2.2.1, 15, .inl (stF dy (learnF k dy ((drN z i) % n) (((drN z i) / 8) % n) w1) g))), (mso, .inl (V.2.2.1, 7, .inl so))] := hw_41.symm
        clear hw_41; subst hw_41x
        refine g_aload_n X dX11_year_133 rfl ?_
        refine g_aload_n X dX11_year_134 rfl ?_
        refine g_get X uwX11 0 rfl rfl 16 (by decide) kl_X11_37 rfl rfl gwX11 dX11_year_135 ?_
        refine g_iconst X (1) dX11_year_138 (by decide) ?_
        refine g_callVv X (c_X11_passOn V mm mtx mnu mrc mrw mrl mki mwa mle mno mtr mse mba mim msi mfo mor mbo mma mbm mso le_ po_ fa_ rcl_ rle_ n m ba_ km_ si_ fm_ k wb ld te pu dy (learnF k dy ((drN z i) % n) (((drN z i) / 8) % n) w1) g mtr 1 (by omega) (by omega) (by omega) ht (Bd_learn hB6)) mo_X11_passOn kl_X11_172 [0, 1, 2, 3, 5] [1, 2, 3, 4, 0, 5, 0] rfl (by decide +kernel) rfl rfl (fun _ => Nat.le_of_ble_eq_true rfl) 0 11 rfl rfl (As := [.ref mtr, .int 1]) (st := []) (cs' := (0, 0)) rfl rfl rfl rfl dX11_year_139 (fun nw_44 hp_45 ws_47 hw_46 => ?_)
        obtain rfl : nw_44 = dayF k wb ld te pu n m g 1 dy (learnF k dy ((drN z i) % n) (((drN z i) / 8) % n) w1) := hp_45
        have hw_46x : ws_47 = [(mm, .inr (11, [.int le_, .ref mtx, .int po_, .ref mnu, .int fa_, .int rcl_, .int rle_, .ref mrc, .ref mrw, .ref mrl, .int (nI n), .ref mki, .ref mwa, .int (nI m), .ref mle, .ref mno, .ref mtr, .ref mse, .ref mba, .int ba_, .ref mim, .int km_, .int si_, .ref msi, .ref mfo, .int fm_, .ref mor, .ref mbo, .ref mma, .ref mbm, .ref mso])), (mki, .inl (V.2.2.1, 7, .inl k)), (mwa, .inl (V.2.2.1, 7, .inl wb)), (mle, .inl (V.2.2.1, 27, .inl (leF ld te pu))), (mno, .inl (V.2.2.1, 15, .inl (stF day w g))), (mtr, .inl (V.2.2.1, 15, .inl (stF (dy + 1) (dayF k wb ld te pu n m g 1 dy (learnF k dy ((drN z i) % n) (((drN z i) / 8) % n) w1)) g))), (mso, .inl (V.2.2.1, 7, .inl so))] := hw_46.symm
        clear hw_46; subst hw_46x
        refine g_iinc X (v := nI (i + 1)) (L' := [some (.ref mm), some (.int (nI z)), some (.int (nI v)), some (.int 0), some (.int (nI (i + 1))), some (.long (((7919 * ((nI z).toInt64)) + (6151 * ((nI i).toInt64))) + 1)), none, some (.int (nI (drN z i)))]) dX11_year_142 rfl (nI_addk (by decide)) (by decide) rfl rfl ?_
        refine g_goto X 48 dX11_year_145 (by decide) ?_
        refine g_sub (L' := [some (.ref mm), some (.int (nI z)), some (.int (nI v)), some (.int 0), some (.int (nI (i + 1))), none, none, none]) ⟨rfl, ⟨rfl, ⟨rfl, ⟨rfl, ⟨rfl, trivial⟩⟩⟩⟩⟩ ?_
        exact ih48 (i + 1) (by omega) (dayF k wb ld te pu n m g 1 dy (learnF k dy ((drN z i) % n) (((drN z i) / 8) % n) w1)) (dy + 1) Bd_day (by rw [yrF, it_s, ← yrF, ← h6, yr_s c105_33n, ← h7]) (by rw [h7, Int32.add_assoc, nI_1])
  exact loop48_24 v 0 (by omega) w day hB rfl (by rw [nI_0, Int32.add_zero])

set_option maxHeartbeats 4000000 in
set_option maxRecDepth 100000 in
theorem w_year_1 (V : gV) (mm : Nat) (mtx : Nat) (mnu : Nat) (mrc : Nat) (mrw : Nat) (mrl : Nat) (mki : Nat) (mwa : Nat) (mle : Nat) (mno : Nat) (mtr : Nat) (mse : Nat) (mba : Nat) (mim : Nat) (msi : Nat) (mfo : Nat) (mor : Nat) (mbo : Nat) (mma : Nat) (mbm : Nat) (mso : Nat) (le_ : Int32) (po_ : Int32) (fa_ : Int32) (rcl_ : Int32) (rle_ : Int32) (n : Nat) (m : Nat) (ba_ : Int32) (km_ : Int32) (si_ : Int32) (fm_ : Int32) (k : Nat → Int32) (wb : Nat → Int32) (ld : Nat → Nat) (te : Nat → Nat) (pu : Nat → Nat) (day : Int32) (w : Nat → Int32) (g : Nat → Int32) (tr : Nat → Int32) (z : Nat) (v : Nat) (hn : n ≤ 7) (h1n : 1 ≤ n) (hm : m ≤ 9) (ht : ∀ i, i < m → te i < n ∧ pu i < n) (hB : Bd n w) (hz : z ≤ 9999) (hv : 1 ≤ v ∧ v ≤ 60) : Ki V yX11_year cX11_year 8 .int ({ frames := 3, cells := 0, slots := 0, locals := 71 }) [.ref mm, .int (nI z), .int (nI v), .int 1] [(mm, .inr (11, [.int le_, .ref mtx, .int po_, .ref mnu, .int fa_, .int rcl_, .int rle_, .ref mrc, .ref mrw, .ref mrl, .int (nI n), .ref mki, .ref mwa, .int (nI m), .ref mle, .ref mno, .ref mtr, .ref mse, .ref mba, .int ba_, .ref mim, .int km_, .int si_, .ref msi, .ref mfo, .int fm_, .ref mor, .ref mbo, .ref mma, .ref mbm, .ref mso])), (mki, .inl (V.2.2.1, 7, .inl k)), (mwa, .inl (V.2.2.1, 7, .inl wb)), (mle, .inl (V.2.2.1, 27, .inl (leF ld te pu))), (mno, .inl (V.2.2.1, 15, .inl (stF day w g))), (mtr, .inl (V.2.2.1, 15, .inl tr))] (fun (r : Int32) (u : (Nat → Int32)) => r = nI (rightF n (yrF k wb ld te pu n m g day z v w))) (fun u => [(mm, .inr (11, [.int le_, .ref mtx, .int po_, .ref mnu, .int fa_, .int rcl_, .int rle_, .ref mrc, .ref mrw, .ref mrl, .int (nI n), .ref mki, .ref mwa, .int (nI m), .ref mle, .ref mno, .ref mtr, .ref mse, .ref mba, .int ba_, .ref mim, .int km_, .int si_, .ref msi, .ref mfo, .int fm_, .ref mor, .ref mbo, .ref mma, .ref mbm, .ref mso])), (mki, .inl (V.2.2.1, 7, .inl k)), (mwa, .inl (V.2.2.1, 7, .inl wb)), (mle, .inl (V.2.2.1, 27, .inl (leF ld te pu))), (mno, .inl (V.2.2.1, 15, .inl (stF day w g))), (mtr, .inl (V.2.2.1, 15, .inl u))]) := by
  refine Ki.of [some (.ref mm), some (.int (nI z)), some (.int (nI v)), some (.int 1), none, none, none, none] (by decide) (Nat.le_of_ble_eq_true rfl) rfl rfl ?_
  intro Z X E
  have X : gX V Z RX11 cX11_year 8 ({ frames := 3, cells := 0, slots := 0, locals := 71 }) := X
  refine g_iload_n X dX11_year_0 rfl ?_
  refine g_iconst X (0) dX11_year_1 (by decide) ?_
  refine g_sipush X (9999) dX11_year_2 (by decide) ?_
  refine g_callSi X (c_X11_in V (nI z) 0 9999) mo_X11_in kl_X11_94 [] [0, 0, 0, 0, 0, 0] rfl (by decide +kernel) rfl rfl (fun _ => Nat.le_of_ble_eq_true rfl) (As := [.int (nI z), .int 0, .int 9999]) (st := []) (cs' := (0, 0)) rfl rfl rfl dX11_year_5 (fun r_5 u_1 hp_2 ws_4 hw_3 => ?_)
  obtain rfl : r_5 = inF (nI z) 0 9999 := hp_2
  have hw_3x : ws_4 = [(mm, .inr (11, [.int le_, .ref mtx, .int po_, .ref mnu, .int fa_, .int rcl_, .int rle_, .ref mrc, .ref mrw, .ref mrl, .int (nI n), .ref mki, .ref mwa, .int (nI m), .ref mle, .ref mno, .ref mtr, .ref mse, .ref mba, .int ba_, .ref mim, .int km_, .int si_, .ref msi, .ref mfo, .int fm_, .ref mor, .ref mbo, .ref mma, .ref mbm, .ref mso])), (mki, .inl (V.2.2.1, 7, .inl k)), (mwa, .inl (V.2.2.1, 7, .inl wb)), (mle, .inl (V.2.2.1, 27, .inl (leF ld te pu))), (mno, .inl (V.2.2.1, 15, .inl (stF day w g))), (mtr, .inl (V.2.2.1, 15, .inl tr))] := hw_3.symm
  clear hw_3; subst hw_3x
  refine g_if_eq X 30 dX11_year_8 (by decide) (fun c8_6 => absurd c8_6 (inF_ne (v := z) (lo := 0) (hi := 9999) (by omega) (by omega))) (fun c8_6 => ?_)
  refine g_iload_n X dX11_year_11 rfl ?_
  refine g_iconst X (1) dX11_year_12 (by decide) ?_
  refine g_bipush X (60) dX11_year_13 (by decide) ?_
  refine g_callSi X (c_X11_in V (nI v) 1 60) mo_X11_in kl_X11_94 [] [0, 0, 0, 0, 0, 0] rfl (by decide +kernel) rfl rfl (fun _ => Nat.le_of_ble_eq_true rfl) (As := [.int (nI v), .int 1, .int 60]) (st := []) (cs' := (0, 0)) rfl rfl rfl dX11_year_15 (fun r_11 u_7 hp_8 ws_10 hw_9 => ?_)
  obtain rfl : r_11 = inF (nI v) 1 60 := hp_8
  have hw_9x : ws_10 = [(mm, .inr (11, [.int le_, .ref mtx, .int po_, .ref mnu, .int fa_, .int rcl_, .int rle_, .ref mrc, .ref mrw, .ref mrl, .int (nI n), .ref mki, .ref mwa, .int (nI m), .ref mle, .ref mno, .ref mtr, .ref mse, .ref mba, .int ba_, .ref mim, .int km_, .int si_, .ref msi, .ref mfo, .int fm_, .ref mor, .ref mbo, .ref mma, .ref mbm, .ref mso])), (mki, .inl (V.2.2.1, 7, .inl k)), (mwa, .inl (V.2.2.1, 7, .inl wb)), (mle, .inl (V.2.2.1, 27, .inl (leF ld te pu))), (mno, .inl (V.2.2.1, 15, .inl (stF day w g))), (mtr, .inl (V.2.2.1, 15, .inl tr))] := hw_9.symm
  clear hw_9; subst hw_9x
  refine g_if_eq X 30 dX11_year_18 (by decide) (fun c18_12 => absurd c18_12 (inF_ne (v := v) (lo := 1) (hi := 60) (by omega) (by omega))) (fun c18_12 => ?_)
  refine g_iload_n X dX11_year_21 rfl ?_
  refine g_iconst X (0) dX11_year_22 (by decide) ?_
  refine g_iconst X (1) dX11_year_23 (by decide) ?_
  refine g_callSi X (c_X11_in V 1 0 1) mo_X11_in kl_X11_94 [] [0, 0, 0, 0, 0, 0] rfl (by decide +kernel) rfl rfl (fun _ => Nat.le_of_ble_eq_true rfl) (As := [.int 1, .int 0, .int 1]) (st := []) (cs' := (0, 0)) rfl rfl rfl dX11_year_24 (fun r_17 u_13 hp_14 ws_16 hw_15 => ?_)
  obtain rfl : r_17 = inF 1 0 1 := hp_14
  have hw_15x : ws_16 = [(mm, .inr (11, [.int le_, .ref mtx, .int po_, .ref mnu, .int fa_, .int rcl_, .int rle_, .ref mrc, .ref mrw, .ref mrl, .int (nI n), .ref mki, .ref mwa, .int (nI m), .ref mle, .ref mno, .ref mtr, .ref mse, .ref mba, .int ba_, .ref mim, .int km_, .int si_, .ref msi, .ref mfo, .int fm_, .ref mor, .ref mbo, .ref mma, .ref mbm, .ref mso])), (mki, .inl (V.2.2.1, 7, .inl k)), (mwa, .inl (V.2.2.1, 7, .inl wb)), (mle, .inl (V.2.2.1, 27, .inl (leF ld te pu))), (mno, .inl (V.2.2.1, 15, .inl (stF day w g))), (mtr, .inl (V.2.2.1, 15, .inl tr))] := hw_15.symm
  clear hw_15; subst hw_15x
  refine g_if_ne X 32 dX11_year_27 (by decide) (fun c27_18 => ?_) (fun c27_18 => absurd c27_18 (by decide))
  refine g_aload_n X dX11_year_32 rfl ?_
  refine g_get X uwX11 0 rfl rfl 15 (by decide) kl_X11_34 rfl rfl gwX11 dX11_year_33 ?_
  refine g_iconst X (0) dX11_year_36 (by decide) ?_
  refine g_aload_n X dX11_year_37 rfl ?_
  refine g_get X uwX11 0 rfl rfl 16 (by decide) kl_X11_37 rfl rfl gwX11 dX11_year_38 ?_
  refine g_iconst X (0) dX11_year_41 (by decide) ?_
  refine g_callSv X (c_X11_copy V mno 15 (stF day w g) mtr 15 tr 0 0 (by omega) (by omega) (by omega) (by omega)) mo_X11_copy kl_X11_165 [4, 5] [0, 0, 0, 0, 1, 2] rfl (by decide +kernel) rfl rfl (fun _ => Nat.le_of_ble_eq_true rfl) (As := [.ref mno, .int 0, .ref mtr, .int 0]) (st := []) (cs' := (0, 0)) rfl rfl rfl dX11_year_42 (fun u_19 hp_20 ws_22 hw_21 => ?_)
  have hw_21x : ws_22 = [(mm, .inr (11, [.int le_, .ref mtx, .int po_, .ref mnu, .int fa_, .int rcl_, .int rle_, .ref mrc, .ref mrw, .ref mrl, .int (nI n), .ref mki, .ref mwa, .int (nI m), .ref mle, .ref mno, .ref mtr, .ref mse, .ref mba, .int ba_, .ref mim, .int km_, .int si_, .ref msi, .ref mfo, .int fm_, .ref mor, .ref mbo, .ref mma, .ref mbm, .ref mso])), (mki, .inl (V.2.2.1, 7, .inl k)), (mwa, .inl (V.2.2.1, 7, .inl wb)), (mle, .inl (V.2.2.1, 27, .inl (leF ld te pu))), (mno, .inl (V.2.2.1, 15, .inl (stF day w g))), (mtr, .inl (V.2.2.1, 15, .inl (cpM 0 0 (stF day w g) tr)))] := hw_21.symm
  clear hw_21; subst hw_21x
  refine g_arr 5 (stF day w g) rfl cpM_0 (ws' := [(mm, .inr (11, [.int le_, .ref mtx, .int po_, .ref mnu, .int fa_, .int rcl_, .int rle_, .ref mrc, .ref mrw, .ref mrl, .int (nI n), .ref mki, .ref mwa, .int (nI m), .ref mle, .ref mno, .ref mtr, .ref mse, .ref mba, .int ba_, .ref mim, .int km_, .int si_, .ref msi, .ref mfo, .int fm_, .ref mor, .ref mbo, .ref mma, .ref mbm, .ref mso])), (mki, .inl (V.2.2.1, 7, .inl k)), (mwa, .inl (V.2.2.1, 7, .inl wb)), (mle, .inl (V.2.2.1, 27, .inl (leF ld te pu))), (mno, .inl (V.2.2.1, 15, .inl (stF day w g))), (mtr, .inl (V.2.2.1, 15, .inl (stF day w g)))]) rfl ?_
  refine g_iconst X (0) dX11_year_45 (by decide) ?_
  refine g_istore X (L' := [some (.ref mm), some (.int (nI z)), some (.int (nI v)), some (.int 1), some (.int 0), none, none, none]) dX11_year_46 (by decide) rfl rfl ?_
  have loop48_24 : ∀ (d48 i : Nat), i + d48 = v → ∀ (w1 : Nat → Int32) (dy : Int32) (hB6 : Bd n w1) (h6 : w1 = yrF k wb ld te pu n m g day z i w) (h7 : dy = day + nI i), G V Z 8 (0, 0) [(mm, .inr (11, [.int le_, .ref mtx, .int po_, .ref mnu, .int fa_, .int rcl_, .int rle_, .ref mrc, .ref mrw, .ref mrl, .int (nI n), .ref mki, .ref mwa, .int (nI m), .ref mle, .ref mno, .ref mtr, .ref mse, .ref mba, .int ba_, .ref mim, .int km_, .int si_, .ref msi, .ref mfo, .int fm_, .ref mor, .ref mbo, .ref mma, .ref mbm, .ref mso])), (mki, .inl (V.2.2.1, 7, .inl k)), (mwa, .inl (V.2.2.1, 7, .inl wb)), (mle, .inl (V.2.2.1, 27, .inl (leF ld te pu))), (mno, .inl (V.2.2.1, 15, .inl (stF day w g))), (mtr, .inl (V.2.2.1, 15, .inl (stF dy w1 g)))] 48 [some (.ref mm), some (.int (nI z)), some (.int (nI v)), some (.int 1), some (.int (nI i)), none, none, none] [] := by
    intro d48
    induction d48 with
    | zero =>
      intro i hi w1 dy hB6 h6 h7
      refine g_iload X dX11_year_48 rfl ?_
      refine g_iload_n X dX11_year_50 rfl ?_
      refine g_icmp_ge X 148 dX11_year_51 (by decide) (fun c51_25 => ?_) (fun c51_25 => absurd (tge (a := i) (b := v) (by omega) (by omega) (by omega)) c51_25)
      refine g_iload_n X dX11_year_148 rfl ?_
      refine g_if_ne X 167 dX11_year_149 (by decide) (fun c149_26 => ?_) (fun c149_26 => absurd c149_26 (by decide))
      refine g_aload_n X dX11_year_167 rfl ?_
      refine g_aload_n X dX11_year_168 rfl ?_
      refine g_get X uwX11 0 rfl rfl 16 (by decide) kl_X11_37 rfl rfl gwX11 dX11_year_169 ?_
      refine g_callVi X (c_X11_rightOf V mm mtx mnu mrc mrw mrl mki mwa mle mno mtr mse mba mim msi mfo mor mbo mma mbm mso le_ po_ fa_ rcl_ rle_ n (nI m) ba_ km_ si_ fm_ dy w1 g mtr (by omega)) mo_X11_rightOf kl_X11_211 [0, 5] [1, 0, 0, 0, 0, 2] rfl (by decide +kernel) rfl rfl (fun _ => Nat.le_of_ble_eq_true rfl) 0 11 rfl rfl (As := [.ref mtr]) (st := []) (cs' := (0, 0)) rfl rfl rfl rfl dX11_year_172 (fun r_31 u_27 hp_28 ws_30 hw_29 => ?_)
      obtain rfl : r_31 = nI (rightF n w1) := hp_28
      have hw_29x : ws_30 = [(mm, .inr (11, [.int le_, .ref mtx, .int po_, .ref mnu, .int fa_, .int rcl_, .int rle_, .ref mrc, .ref mrw, .ref mrl, .int (nI n), .ref mki, .ref mwa, .int (nI m), .ref mle, .ref mno, .ref mtr, .ref mse, .ref mba, .int ba_, .ref mim, .int km_, .int si_, .ref msi, .ref mfo, .int fm_, .ref mor, .ref mbo, .ref mma, .ref mbm, .ref mso])), (mki, .inl (V.2.2.1, 7, .inl k)), (mwa, .inl (V.2.2.1, 7, .inl wb)), (mle, .inl (V.2.2.1, 27, .inl (leF ld te pu))), (mno, .inl (V.2.2.1, 15, .inl (stF day w g))), (mtr, .inl (V.2.2.1, 15, .inl (stF dy w1 g)))] := hw_29.symm
      clear hw_29; subst hw_29x
      exact g_iret X E dX11_year_175 (stF dy w1 g) (nI (rightF n w1)) (by have e : i = v := (by omega); subst e; rw [h6]) rfl
    | succ d48 ih48 =>
      intro i hi w1 dy hB6 h6 h7
      refine g_iload X dX11_year_48 rfl ?_
      refine g_iload_n X dX11_year_50 rfl ?_
      refine g_icmp_ge X 148 dX11_year_51 (by decide) (fun c51_32 => absurd c51_32 (fge (a := i) (b := v) (by omega) (by omega) (by omega))) (fun c51_32 => ?_)
      refine g_ldc2 X kl_X11_203 dX11_year_54 ?_
      refine g_iload_n X dX11_year_57 rfl ?_
      refine g_i2l X dX11_year_58 ?_
      refine g_lmul X dX11_year_59 ?_
      refine g_ldc2 X kl_X11_205 dX11_year_60 ?_
      refine g_iload X dX11_year_63 rfl ?_
      refine g_i2l X dX11_year_65 ?_
      refine g_lmul X dX11_year_66 ?_
      refine g_ladd X dX11_year_67 ?_
      refine g_lconst X 1 dX11_year_68 (by decide) ?_
      refine g_ladd X dX11_year_69 ?_
      refine g_lstore X (L' := [some (.ref mm), some (.int (nI z)), some (.int (nI v)), some (.int 1), some (.int (nI i)), some (.long (((7919 * ((nI z).toInt64)) + (6151 * ((nI i).toInt64))) + 1)), none, none]) dX11_year_70 (by decide) rfl rfl ?_
      refine g_lload X dX11_year_72 rfl ?_
      refine g_lload X dX11_year_74 rfl ?_
      refine g_lmul X dX11_year_76 ?_
      refine g_ldc2 X kl_X11_207 dX11_year_77 ?_
      refine g_lrem X dX11_year_80 (by decide) ?_
      refine g_ldc2 X kl_X11_209 dX11_year_81 ?_
      refine g_ldiv X dX11_year_84 (by decide) ?_
      refine g_l2i X dX11_year_85 ?_
      have hd1 : drN z i < 8191 := by rw [drN]; have := Nat.mod_lt ((7919 * z + 6151 * i + 1) * (7919 * z + 6151 * i + 1)) (show 0 < 65521 by decide); omega
      have hm1 := Nat.mod_lt (drN z i) (show 0 < n by omega)
      have hm2 := Nat.mod_lt (drN z i / 8) (show 0 < n by omega)
      refine g_toe (x' := nI (drN z i)) (draw_eq hz (by omega)) ?_
      refine g_istore X (L' := [some (.ref mm), some (.int (nI z)), some (.int (nI v)), some (.int 1), some (.int (nI i)), some (.long (((7919 * ((nI z).toInt64)) + (6151 * ((nI i).toInt64))) + 1)), none, some (.int (nI (drN z i)))]) dX11_year_86 (by decide) rfl rfl ?_
      refine g_iload X dX11_year_88 rfl ?_
      refine g_aload_n X dX11_year_90 rfl ?_
      refine g_get X uwX11 0 rfl rfl 10 (by decide) kl_X11_91 rfl rfl gwX11 dX11_year_91 ?_
      refine g_rem X dX11_year_94 (feq (a := n) (b := 0) (by omega) (by omega) (by omega)) ?_
      refine g_toe (x' := nI ((drN z i) % n)) (nI_mod' rfl rfl (by omega) (by omega) (by omega)) ?_
      refine g_iload X dX11_year_95 rfl ?_
      refine g_bipush X (8) dX11_year_97 (by decide) ?_
      refine g_idiv X dX11_year_99 (by decide) ?_
      refine g_toe (x' := nI ((drN z i) / 8)) (nI_div' rfl rfl (by omega) (by omega) (by omega)) ?_
      refine g_aload_n X dX11_year_100 rfl ?_
      refine g_get X uwX11 0 rfl rfl 10 (by decide) kl_X11_91 rfl rfl gwX11 dX11_year_101 ?_
      refine g_rem X dX11_year_104 (feq (a := n) (b := 0) (by omega) (by omega) (by omega)) ?_
      refine g_toe (x' := nI (((drN z i) / 8) % n)) (nI_mod' rfl rfl (by omega) (by omega) (by omega)) ?_
      refine g_icmp_eq X 133 dX11_year_105 (by decide) (fun c105_33 => ?_) (fun c105_33 => ?_)
      · have c105_33n := ieq' (a := (drN z i) % n) (b := ((drN z i) / 8) % n) c105_33 (by omega) (by omega)
        refine g_aload_n X dX11_year_133 rfl ?_
        refine g_aload_n X dX11_year_134 rfl ?_
        refine g_get X uwX11 0 rfl rfl 16 (by decide) kl_X11_37 rfl rfl gwX11 dX11_year_135 ?_
        refine g_iconst X (1) dX11_year_138 (by decide) ?_
        refine g_callVv X (c_X11_passOn V mm mtx mnu mrc mrw mrl mki mwa mle mno mtr mse mba mim msi mfo mor mbo mma mbm mso le_ po_ fa_ rcl_ rle_ n m ba_ km_ si_ fm_ k wb ld te pu dy w1 g mtr 1 (by omega) (by omega) (by omega) ht hB6) mo_X11_passOn kl_X11_172 [0, 1, 2, 3, 5] [1, 2, 3, 4, 0, 5] rfl (by decide +kernel) rfl rfl (fun _ => Nat.le_of_ble_eq_true rfl) 0 11 rfl rfl (As := [.ref mtr, .int 1]) (st := []) (cs' := (0, 0)) rfl rfl rfl rfl dX11_year_139 (fun nw_34 hp_35 ws_37 hw_36 => ?_)
        obtain rfl : nw_34 = dayF k wb ld te pu n m g 1 dy w1 := hp_35
        have hw_36x : ws_37 = [(mm, .inr (11, [.int le_, .ref mtx, .int po_, .ref mnu, .int fa_, .int rcl_, .int rle_, .ref mrc, .ref mrw, .ref mrl, .int (nI n), .ref mki, .ref mwa, .int (nI m), .ref mle, .ref mno, .ref mtr, .ref mse, .ref mba, .int ba_, .ref mim, .int km_, .int si_, .ref msi, .ref mfo, .int fm_, .ref mor, .ref mbo, .ref mma, .ref mbm, .ref mso])), (mki, .inl (V.2.2.1, 7, .inl k)), (mwa, .inl (V.2.2.1, 7, .inl wb)), (mle, .inl (V.2.2.1, 27, .inl (leF ld te pu))), (mno, .inl (V.2.2.1, 15, .inl (stF day w g))), (mtr, .inl (V.2.2.1, 15, .inl (stF (dy + 1) (dayF k wb ld te pu n m g 1 dy w1) g)))] := hw_36.symm
        clear hw_36; subst hw_36x
        refine g_iinc X (v := nI (i + 1)) (L' := [some (.ref mm), some (.int (nI z)), some (.int (nI v)), some (.int 1), some (.int (nI (i + 1))), some (.long (((7919 * ((nI z).toInt64)) + (6151 * ((nI i).toInt64))) + 1)), none, some (.int (nI (drN z i)))]) dX11_year_142 rfl (nI_addk (by decide)) (by decide) rfl rfl ?_
        refine g_goto X 48 dX11_year_145 (by decide) ?_
        refine g_sub (L' := [some (.ref mm), some (.int (nI z)), some (.int (nI v)), some (.int 1), some (.int (nI (i + 1))), none, none, none]) ⟨rfl, ⟨rfl, ⟨rfl, ⟨rfl, ⟨rfl, trivial⟩⟩⟩⟩⟩ ?_
        exact ih48 (i + 1) (by omega) (dayF k wb ld te pu n m g 1 dy w1) (dy + 1) Bd_day (by rw [yrF, it_s, ← yrF, ← h6, yrS, ← h7]; simp [c105_33, c105_33n]) (by rw [h7, Int32.add_assoc, nI_1])
      · have c105_33n := ine' (a := (drN z i) % n) (b := ((drN z i) / 8) % n) c105_33 (by omega) (by omega)
        refine g_aload_n X dX11_year_108 rfl ?_
        refine g_aload_n X dX11_year_109 rfl ?_
        refine g_get X uwX11 0 rfl rfl 16 (by decide) kl_X11_37 rfl rfl gwX11 dX11_year_110 ?_
        refine g_iload X dX11_year_113 rfl ?_
        refine g_aload_n X dX11_year_115 rfl ?_
        refine g_get X uwX11 0 rfl rfl 10 (by decide) kl_X11_91 rfl rfl gwX11 dX11_year_116 ?_
        refine g_rem X dX11_year_119 (feq (a := n) (b := 0) (by omega) (by omega) (by omega)) ?_
        refine g_toe (x' := nI ((drN z i) % n)) (nI_mod' rfl rfl (by omega) (by omega) (by omega)) ?_
        refine g_iload X dX11_year_120 rfl ?_
        refine g_bipush X (8) dX11_year_122 (by decide) ?_
        refine g_idiv X dX11_year_124 (by decide) ?_
        refine g_toe (x' := nI ((drN z i) / 8)) (nI_div' rfl rfl (by omega) (by omega) (by omega)) ?_
        refine g_aload_n X dX11_year_125 rfl ?_
        refine g_get X uwX11 0 rfl rfl 10 (by decide) kl_X11_91 rfl rfl gwX11 dX11_year_126 ?_
        refine g_rem X dX11_year_129 (feq (a := n) (b := 0) (by omega) (by omega) (by omega)) ?_
        refine g_toe (x' := nI (((drN z i) / 8) % n)) (nI_mod' rfl rfl (by omega) (by omega) (by omega)) ?_
        refine g_callVv X (c_X11_teachOn V mm mtx mnu mrc mrw mrl mki mwa mle mno mtr mse mba mim msi mfo mor mbo mma mbm mso le_ po_ fa_ rcl_ rle_ n (nI m) ba_ km_ si_ fm_ k dy w1 g mtr ((drN z i) % n) (((drN z i) / 8) % n) (by omega) (by omega) (by omega) hB6) mo_X11_teachOn kl_X11_154 [0, 1, 5] [1, 2, 0, 0, 0, 3] rfl (by decide +kernel) rfl rfl (fun _ => Nat.le_of_ble_eq_true rfl) 0 11 rfl rfl (As := [.ref mtr, .int (nI ((drN z i) % n)), .int (nI (((drN z i) / 8) % n))]) (st := []) (cs' := (0, 0)) rfl rfl rfl rfl dX11_year_130 (fun nw_39 hp_40 ws_42 hw_41 => ?_)
        obtain rfl : nw_39 = learnF k dy ((drN z i) % n) (((drN z i) / 8) % n) w1 := hp_40
        have hw_41x : ws_42 = [(mm, .inr (11, [.int le_, .ref mtx, .int po_, .ref mnu, .int fa_, .int rcl_, .int rle_, .ref mrc, .ref mrw, .ref mrl, .int (nI n), .ref mki, .ref mwa, .int (nI m), .ref mle, .ref mno, .ref mtr, .ref mse, .ref mba, .int ba_, .ref mim, .int km_, .int si_, .ref msi, .ref mfo, .int fm_, .ref mor, .ref mbo, .ref mma, .ref mbm, .ref mso])), (mki, .inl (V.2.2.1, 7, .inl k)), (mwa, .inl (V.2.2.1, 7, .inl wb)), (mle, .inl (V.2.2.1, 27, .inl (leF ld te pu))), (mno, .inl (V.2.2.1, 15, .inl (stF day w g))), (mtr, .inl (V.2.2.1, 15, .inl (stF dy (learnF k dy ((drN z i) % n) (((drN z i) / 8) % n) w1) g)))] := hw_41.symm
        clear hw_41; subst hw_41x
        refine g_aload_n X dX11_year_133 rfl ?_
        refine g_aload_n X dX11_year_134 rfl ?_
        refine g_get X uwX11 0 rfl rfl 16 (by decide) kl_X11_37 rfl rfl gwX11 dX11_year_135 ?_
        refine g_iconst X (1) dX11_year_138 (by decide) ?_
        refine g_callVv X (c_X11_passOn V mm mtx mnu mrc mrw mrl mki mwa mle mno mtr mse mba mim msi mfo mor mbo mma mbm mso le_ po_ fa_ rcl_ rle_ n m ba_ km_ si_ fm_ k wb ld te pu dy (learnF k dy ((drN z i) % n) (((drN z i) / 8) % n) w1) g mtr 1 (by omega) (by omega) (by omega) ht (Bd_learn hB6)) mo_X11_passOn kl_X11_172 [0, 1, 2, 3, 5] [1, 2, 3, 4, 0, 5] rfl (by decide +kernel) rfl rfl (fun _ => Nat.le_of_ble_eq_true rfl) 0 11 rfl rfl (As := [.ref mtr, .int 1]) (st := []) (cs' := (0, 0)) rfl rfl rfl rfl dX11_year_139 (fun nw_44 hp_45 ws_47 hw_46 => ?_)
        obtain rfl : nw_44 = dayF k wb ld te pu n m g 1 dy (learnF k dy ((drN z i) % n) (((drN z i) / 8) % n) w1) := hp_45
        have hw_46x : ws_47 = [(mm, .inr (11, [.int le_, .ref mtx, .int po_, .ref mnu, .int fa_, .int rcl_, .int rle_, .ref mrc, .ref mrw, .ref mrl, .int (nI n), .ref mki, .ref mwa, .int (nI m), .ref mle, .ref mno, .ref mtr, .ref mse, .ref mba, .int ba_, .ref mim, .int km_, .int si_, .ref msi, .ref mfo, .int fm_, .ref mor, .ref mbo, .ref mma, .ref mbm, .ref mso])), (mki, .inl (V.2.2.1, 7, .inl k)), (mwa, .inl (V.2.2.1, 7, .inl wb)), (mle, .inl (V.2.2.1, 27, .inl (leF ld te pu))), (mno, .inl (V.2.2.1, 15, .inl (stF day w g))), (mtr, .inl (V.2.2.1, 15, .inl (stF (dy + 1) (dayF k wb ld te pu n m g 1 dy (learnF k dy ((drN z i) % n) (((drN z i) / 8) % n) w1)) g)))] := hw_46.symm
        clear hw_46; subst hw_46x
        refine g_iinc X (v := nI (i + 1)) (L' := [some (.ref mm), some (.int (nI z)), some (.int (nI v)), some (.int 1), some (.int (nI (i + 1))), some (.long (((7919 * ((nI z).toInt64)) + (6151 * ((nI i).toInt64))) + 1)), none, some (.int (nI (drN z i)))]) dX11_year_142 rfl (nI_addk (by decide)) (by decide) rfl rfl ?_
        refine g_goto X 48 dX11_year_145 (by decide) ?_
        refine g_sub (L' := [some (.ref mm), some (.int (nI z)), some (.int (nI v)), some (.int 1), some (.int (nI (i + 1))), none, none, none]) ⟨rfl, ⟨rfl, ⟨rfl, ⟨rfl, ⟨rfl, trivial⟩⟩⟩⟩⟩ ?_
        exact ih48 (i + 1) (by omega) (dayF k wb ld te pu n m g 1 dy (learnF k dy ((drN z i) % n) (((drN z i) / 8) % n) w1)) (dy + 1) Bd_day (by rw [yrF, it_s, ← yrF, ← h6, yr_s c105_33n, ← h7]) (by rw [h7, Int32.add_assoc, nI_1])
  exact loop48_24 v 0 (by omega) w day hB rfl (by rw [nI_0, Int32.add_zero])

set_option maxHeartbeats 4000000 in
set_option maxRecDepth 100000 in
theorem w_draughts_bad (V : gV) (mm : Nat) (mtx : Nat) (mnu : Nat) (mrc : Nat) (mrw : Nat) (mrl : Nat) (mki : Nat) (mwa : Nat) (mle : Nat) (mno : Nat) (mtr : Nat) (mse : Nat) (mba : Nat) (mim : Nat) (msi : Nat) (mfo : Nat) (mor : Nat) (mbo : Nat) (mma : Nat) (mbm : Nat) (mso : Nat) (le_ : Int32) (po_ : Int32) (fa_ : Int32) (rcl_ : Int32) (rle_ : Int32) (n : Nat) (ls_ : Int32) (ba_ : Int32) (km_ : Int32) (si_ : Int32) (fm_ : Int32) (c : Int32) (v : Int32) (x : Int32) (y : Int32) (hn : n ≤ 7) (h1n : 1 ≤ n) (hbad : ¬ (okC n c ∧ ¬ v < 0 ∧ ¬ 6 < v ∧ ¬ x < 0 ∧ ¬ 10 < x ∧ ¬ y < 0 ∧ y ≤ 1)) : Ki V yX11_draughts cX11_draughts 10 .int ({ frames := 2, cells := 0, slots := 0, locals := 43 }) [.ref mm, .int c, .int v, .int x, .int y] [(mm, .inr (11, [.int le_, .ref mtx, .int po_, .ref mnu, .int fa_, .int rcl_, .int rle_, .ref mrc, .ref mrw, .ref mrl, .int (nI n), .ref mki, .ref mwa, .int ls_, .ref mle, .ref mno, .ref mtr, .ref mse, .ref mba, .int ba_, .ref mim, .int km_, .int si_, .ref msi, .ref mfo, .int fm_, .ref mor, .ref mbo, .ref mma, .ref mbm, .ref mso]))] (fun (r : Int32) (u : Unit) => r = -1) (fun u => [(mm, .inr (11, [.int le_, .ref mtx, .int po_, .ref mnu, .int fa_, .int rcl_, .int rle_, .ref mrc, .ref mrw, .ref mrl, .int (nI n), .ref mki, .ref mwa, .int ls_, .ref mle, .ref mno, .ref mtr, .ref mse, .ref mba, .int ba_, .ref mim, .int km_, .int si_, .ref msi, .ref mfo, .int fm_, .ref mor, .ref mbo, .ref mma, .ref mbm, .ref mso]))]) := by
  refine Ki.of [some (.ref mm), some (.int c), some (.int v), some (.int x), some (.int y), none, none, none, none, none] (by decide) (Nat.le_of_ble_eq_true rfl) rfl rfl ?_
  intro Z X E
  have X : gX V Z RX11 cX11_draughts 10 ({ frames := 2, cells := 0, slots := 0, locals := 43 }) := X
  refine g_aload_n X dX11_draughts_0 rfl ?_
  refine g_iload_n X dX11_draughts_1 rfl ?_
  refine g_callVi X (c_X11_isClock V mm mtx mnu mrc mrw mrl mki mwa mle mno mtr mse mba mim msi mfo mor mbo mma mbm mso le_ po_ fa_ rcl_ rle_ n ls_ ba_ km_ si_ fm_ c (by omega) (by omega)) mo_X11_isClock kl_X11_134 [0] [1] rfl (by decide +kernel) rfl rfl (fun _ => Nat.le_of_ble_eq_true rfl) 0 11 rfl rfl (As := [.int c]) (st := []) (cs' := (0, 0)) rfl rfl rfl rfl dX11_draughts_2 (fun r_5 u_1 hp_2 ws_4 hw_3 => ?_)
  obtain rfl : r_5 = (if okC n c then 1 else 0) := hp_2
  have hw_3x : ws_4 = [(mm, .inr (11, [.int le_, .ref mtx, .int po_, .ref mnu, .int fa_, .int rcl_, .int rle_, .ref mrc, .ref mrw, .ref mrl, .int (nI n), .ref mki, .ref mwa, .int ls_, .ref mle, .ref mno, .ref mtr, .ref mse, .ref mba, .int ba_, .ref mim, .int km_, .int si_, .ref msi, .ref mfo, .int fm_, .ref mor, .ref mbo, .ref mma, .ref mbm, .ref mso]))] := hw_3.symm
  clear hw_3; subst hw_3x
  refine g_if_eq X 38 dX11_draughts_5 (by decide) (fun c5_6 => ?_) (fun c5_6 => ?_)
  · refine g_iconst X (-1) dX11_draughts_38 (by decide) ?_
    exact g_iret X E dX11_draughts_39 () (-1) (by first | rfl | (simp [c5_6]; done)) rfl
  · refine g_iload_n X dX11_draughts_8 rfl ?_
    refine g_iconst X (0) dX11_draughts_9 (by decide) ?_
    refine g_bipush X (6) dX11_draughts_10 (by decide) ?_
    refine g_callSi X (c_X11_in V v 0 6) mo_X11_in kl_X11_94 [] [0] rfl (by decide +kernel) rfl rfl (fun _ => Nat.le_of_ble_eq_true rfl) (As := [.int v, .int 0, .int 6]) (st := []) (cs' := (0, 0)) rfl rfl rfl dX11_draughts_12 (fun r_11 u_7 hp_8 ws_10 hw_9 => ?_)
    obtain rfl : r_11 = inF v 0 6 := hp_8
    have hw_9x : ws_10 = [(mm, .inr (11, [.int le_, .ref mtx, .int po_, .ref mnu, .int fa_, .int rcl_, .int rle_, .ref mrc, .ref mrw, .ref mrl, .int (nI n), .ref mki, .ref mwa, .int ls_, .ref mle, .ref mno, .ref mtr, .ref mse, .ref mba, .int ba_, .ref mim, .int km_, .int si_, .ref msi, .ref mfo, .int fm_, .ref mor, .ref mbo, .ref mma, .ref mbm, .ref mso]))] := hw_9.symm
    clear hw_9; subst hw_9x
    refine g_if_eq X 38 dX11_draughts_15 (by decide) (fun c15_12 => ?_) (fun c15_12 => ?_)
    · refine g_iconst X (-1) dX11_draughts_38 (by decide) ?_
      exact g_iret X E dX11_draughts_39 () (-1) (by first | rfl | (simp [c5_6, c15_12]; done)) rfl
    · refine g_iload_n X dX11_draughts_18 rfl ?_
      refine g_iconst X (0) dX11_draughts_19 (by decide) ?_
      refine g_bipush X (10) dX11_draughts_20 (by decide) ?_
      refine g_callSi X (c_X11_in V x 0 10) mo_X11_in kl_X11_94 [] [0] rfl (by decide +kernel) rfl rfl (fun _ => Nat.le_of_ble_eq_true rfl) (As := [.int x, .int 0, .int 10]) (st := []) (cs' := (0, 0)) rfl rfl rfl dX11_draughts_22 (fun r_17 u_13 hp_14 ws_16 hw_15 => ?_)
      obtain rfl : r_17 = inF x 0 10 := hp_14
      have hw_15x : ws_16 = [(mm, .inr (11, [.int le_, .ref mtx, .int po_, .ref mnu, .int fa_, .int rcl_, .int rle_, .ref mrc, .ref mrw, .ref mrl, .int (nI n), .ref mki, .ref mwa, .int ls_, .ref mle, .ref mno, .ref mtr, .ref mse, .ref mba, .int ba_, .ref mim, .int km_, .int si_, .ref msi, .ref mfo, .int fm_, .ref mor, .ref mbo, .ref mma, .ref mbm, .ref mso]))] := hw_15.symm
      clear hw_15; subst hw_15x
      refine g_if_eq X 38 dX11_draughts_25 (by decide) (fun c25_18 => ?_) (fun c25_18 => ?_)
      · refine g_iconst X (-1) dX11_draughts_38 (by decide) ?_
        exact g_iret X E dX11_draughts_39 () (-1) (by first | rfl | (simp [c5_6, c15_12, c25_18]; done)) rfl
      · refine g_iload X dX11_draughts_28 rfl ?_
        refine g_iconst X (0) dX11_draughts_30 (by decide) ?_
        refine g_iconst X (1) dX11_draughts_31 (by decide) ?_
        refine g_callSi X (c_X11_in V y 0 1) mo_X11_in kl_X11_94 [] [0] rfl (by decide +kernel) rfl rfl (fun _ => Nat.le_of_ble_eq_true rfl) (As := [.int y, .int 0, .int 1]) (st := []) (cs' := (0, 0)) rfl rfl rfl dX11_draughts_32 (fun r_23 u_19 hp_20 ws_22 hw_21 => ?_)
        obtain rfl : r_23 = inF y 0 1 := hp_20
        have hw_21x : ws_22 = [(mm, .inr (11, [.int le_, .ref mtx, .int po_, .ref mnu, .int fa_, .int rcl_, .int rle_, .ref mrc, .ref mrw, .ref mrl, .int (nI n), .ref mki, .ref mwa, .int ls_, .ref mle, .ref mno, .ref mtr, .ref mse, .ref mba, .int ba_, .ref mim, .int km_, .int si_, .ref msi, .ref mfo, .int fm_, .ref mor, .ref mbo, .ref mma, .ref mbm, .ref mso]))] := hw_21.symm
        clear hw_21; subst hw_21x
        refine g_if_ne X 40 dX11_draughts_35 (by decide) (fun c35_24 => ?_) (fun c35_24 => ?_)
        · exact absurd ⟨(by have z := c5_6; by_cases q9 : okC n c; exact q9; rw [if_neg q9] at z; exact absurd rfl z), (inF_of c15_12).1, (inF_of c15_12).2, (inF_of c25_18).1, (inF_of c25_18).2, (inF_of c35_24).1, Int32.not_lt.mp (inF_of c35_24).2⟩ hbad
        · refine g_iconst X (-1) dX11_draughts_38 (by decide) ?_
          exact g_iret X E dX11_draughts_39 () (-1) (by first | rfl | (simp [c5_6, c15_12, c25_18, c35_24]; done)) rfl

set_option maxHeartbeats 4000000 in
set_option maxRecDepth 100000 in
theorem w_oils_bad (V : gV) (mm : Nat) (mtx : Nat) (mnu : Nat) (mrc : Nat) (mrw : Nat) (mrl : Nat) (mki : Nat) (mwa : Nat) (mle : Nat) (mno : Nat) (mtr : Nat) (mse : Nat) (mba : Nat) (mim : Nat) (msi : Nat) (mfo : Nat) (mor : Nat) (mbo : Nat) (mma : Nat) (mbm : Nat) (mso : Nat) (le_ : Int32) (po_ : Int32) (fa_ : Int32) (rcl_ : Int32) (rle_ : Int32) (n : Nat) (ls_ : Int32) (ba_ : Int32) (km_ : Int32) (si_ : Int32) (fm_ : Int32) (c : Int32) (v : Int32) (x : Int32) (hn : n ≤ 7) (h1n : 1 ≤ n) (hbad : ¬ (okC n c ∧ ¬ v < 1 ∧ ¬ 30 < v ∧ ¬ x < 0 ∧ x ≤ 100)) : Ki V yX11_oils cX11_oils 7 .int ({ frames := 2, cells := 0, slots := 0, locals := 43 }) [.ref mm, .int c, .int v, .int x] [(mm, .inr (11, [.int le_, .ref mtx, .int po_, .ref mnu, .int fa_, .int rcl_, .int rle_, .ref mrc, .ref mrw, .ref mrl, .int (nI n), .ref mki, .ref mwa, .int ls_, .ref mle, .ref mno, .ref mtr, .ref mse, .ref mba, .int ba_, .ref mim, .int km_, .int si_, .ref msi, .ref mfo, .int fm_, .ref mor, .ref mbo, .ref mma, .ref mbm, .ref mso]))] (fun (r : Int32) (u : Unit) => r = -1) (fun u => [(mm, .inr (11, [.int le_, .ref mtx, .int po_, .ref mnu, .int fa_, .int rcl_, .int rle_, .ref mrc, .ref mrw, .ref mrl, .int (nI n), .ref mki, .ref mwa, .int ls_, .ref mle, .ref mno, .ref mtr, .ref mse, .ref mba, .int ba_, .ref mim, .int km_, .int si_, .ref msi, .ref mfo, .int fm_, .ref mor, .ref mbo, .ref mma, .ref mbm, .ref mso]))]) := by
  refine Ki.of [some (.ref mm), some (.int c), some (.int v), some (.int x), none, none, none] (by decide) (Nat.le_of_ble_eq_true rfl) rfl rfl ?_
  intro Z X E
  have X : gX V Z RX11 cX11_oils 7 ({ frames := 2, cells := 0, slots := 0, locals := 43 }) := X
  refine g_aload_n X dX11_oils_0 rfl ?_
  refine g_iload_n X dX11_oils_1 rfl ?_
  refine g_callVi X (c_X11_isClock V mm mtx mnu mrc mrw mrl mki mwa mle mno mtr mse mba mim msi mfo mor mbo mma mbm mso le_ po_ fa_ rcl_ rle_ n ls_ ba_ km_ si_ fm_ c (by omega) (by omega)) mo_X11_isClock kl_X11_134 [0] [1] rfl (by decide +kernel) rfl rfl (fun _ => Nat.le_of_ble_eq_true rfl) 0 11 rfl rfl (As := [.int c]) (st := []) (cs' := (0, 0)) rfl rfl rfl rfl dX11_oils_2 (fun r_5 u_1 hp_2 ws_4 hw_3 => ?_)
  obtain rfl : r_5 = (if okC n c then 1 else 0) := hp_2
  have hw_3x : ws_4 = [(mm, .inr (11, [.int le_, .ref mtx, .int po_, .ref mnu, .int fa_, .int rcl_, .int rle_, .ref mrc, .ref mrw, .ref mrl, .int (nI n), .ref mki, .ref mwa, .int ls_, .ref mle, .ref mno, .ref mtr, .ref mse, .ref mba, .int ba_, .ref mim, .int km_, .int si_, .ref msi, .ref mfo, .int fm_, .ref mor, .ref mbo, .ref mma, .ref mbm, .ref mso]))] := hw_3.symm
  clear hw_3; subst hw_3x
  refine g_if_eq X 28 dX11_oils_5 (by decide) (fun c5_6 => ?_) (fun c5_6 => ?_)
  · refine g_iconst X (-1) dX11_oils_28 (by decide) ?_
    exact g_iret X E dX11_oils_29 () (-1) (by first | rfl | (simp [c5_6]; done)) rfl
  · refine g_iload_n X dX11_oils_8 rfl ?_
    refine g_iconst X (1) dX11_oils_9 (by decide) ?_
    refine g_bipush X (30) dX11_oils_10 (by decide) ?_
    refine g_callSi X (c_X11_in V v 1 30) mo_X11_in kl_X11_94 [] [0] rfl (by decide +kernel) rfl rfl (fun _ => Nat.le_of_ble_eq_true rfl) (As := [.int v, .int 1, .int 30]) (st := []) (cs' := (0, 0)) rfl rfl rfl dX11_oils_12 (fun r_11 u_7 hp_8 ws_10 hw_9 => ?_)
    obtain rfl : r_11 = inF v 1 30 := hp_8
    have hw_9x : ws_10 = [(mm, .inr (11, [.int le_, .ref mtx, .int po_, .ref mnu, .int fa_, .int rcl_, .int rle_, .ref mrc, .ref mrw, .ref mrl, .int (nI n), .ref mki, .ref mwa, .int ls_, .ref mle, .ref mno, .ref mtr, .ref mse, .ref mba, .int ba_, .ref mim, .int km_, .int si_, .ref msi, .ref mfo, .int fm_, .ref mor, .ref mbo, .ref mma, .ref mbm, .ref mso]))] := hw_9.symm
    clear hw_9; subst hw_9x
    refine g_if_eq X 28 dX11_oils_15 (by decide) (fun c15_12 => ?_) (fun c15_12 => ?_)
    · refine g_iconst X (-1) dX11_oils_28 (by decide) ?_
      exact g_iret X E dX11_oils_29 () (-1) (by first | rfl | (simp [c5_6, c15_12]; done)) rfl
    · refine g_iload_n X dX11_oils_18 rfl ?_
      refine g_iconst X (0) dX11_oils_19 (by decide) ?_
      refine g_bipush X (100) dX11_oils_20 (by decide) ?_
      refine g_callSi X (c_X11_in V x 0 100) mo_X11_in kl_X11_94 [] [0] rfl (by decide +kernel) rfl rfl (fun _ => Nat.le_of_ble_eq_true rfl) (As := [.int x, .int 0, .int 100]) (st := []) (cs' := (0, 0)) rfl rfl rfl dX11_oils_22 (fun r_17 u_13 hp_14 ws_16 hw_15 => ?_)
      obtain rfl : r_17 = inF x 0 100 := hp_14
      have hw_15x : ws_16 = [(mm, .inr (11, [.int le_, .ref mtx, .int po_, .ref mnu, .int fa_, .int rcl_, .int rle_, .ref mrc, .ref mrw, .ref mrl, .int (nI n), .ref mki, .ref mwa, .int ls_, .ref mle, .ref mno, .ref mtr, .ref mse, .ref mba, .int ba_, .ref mim, .int km_, .int si_, .ref msi, .ref mfo, .int fm_, .ref mor, .ref mbo, .ref mma, .ref mbm, .ref mso]))] := hw_15.symm
      clear hw_15; subst hw_15x
      refine g_if_ne X 30 dX11_oils_25 (by decide) (fun c25_18 => ?_) (fun c25_18 => ?_)
      · exact absurd ⟨(by have z := c5_6; by_cases q9 : okC n c; exact q9; rw [if_neg q9] at z; exact absurd rfl z), (inF_of c15_12).1, (inF_of c15_12).2, (inF_of c25_18).1, Int32.not_lt.mp (inF_of c25_18).2⟩ hbad
      · refine g_iconst X (-1) dX11_oils_28 (by decide) ?_
        exact g_iret X E dX11_oils_29 () (-1) (by first | rfl | (simp [c5_6, c15_12, c25_18]; done)) rfl

set_option maxHeartbeats 4000000 in
set_option maxRecDepth 100000 in
theorem w_ring_bad (V : gV) (mm : Nat) (mtx : Nat) (mnu : Nat) (mrc : Nat) (mrw : Nat) (mrl : Nat) (mki : Nat) (mwa : Nat) (mle : Nat) (mno : Nat) (mtr : Nat) (mse : Nat) (mba : Nat) (mim : Nat) (msi : Nat) (mfo : Nat) (mor : Nat) (mbo : Nat) (mma : Nat) (mbm : Nat) (mso : Nat) (le_ : Int32) (po_ : Int32) (fa_ : Int32) (rcl_ : Int32) (rle_ : Int32) (cl_ : Int32) (ls_ : Int32) (ba_ : Int32) (km_ : Int32) (si_ : Int32) (fm_ : Int32) (kk : Int32) (hbad : ¬ (¬ kk < 0 ∧ kk ≤ 7)) : Ki V yX11_ring cX11_ring 7 .int ({ frames := 1, cells := 0, slots := 0, locals := 22 }) [.ref mm, .int kk] [(mm, .inr (11, [.int le_, .ref mtx, .int po_, .ref mnu, .int fa_, .int rcl_, .int rle_, .ref mrc, .ref mrw, .ref mrl, .int cl_, .ref mki, .ref mwa, .int ls_, .ref mle, .ref mno, .ref mtr, .ref mse, .ref mba, .int ba_, .ref mim, .int km_, .int si_, .ref msi, .ref mfo, .int fm_, .ref mor, .ref mbo, .ref mma, .ref mbm, .ref mso]))] (fun (r : Int32) (u : Unit) => r = -1) (fun u => [(mm, .inr (11, [.int le_, .ref mtx, .int po_, .ref mnu, .int fa_, .int rcl_, .int rle_, .ref mrc, .ref mrw, .ref mrl, .int cl_, .ref mki, .ref mwa, .int ls_, .ref mle, .ref mno, .ref mtr, .ref mse, .ref mba, .int ba_, .ref mim, .int km_, .int si_, .ref msi, .ref mfo, .int fm_, .ref mor, .ref mbo, .ref mma, .ref mbm, .ref mso]))]) := by
  refine Ki.of [some (.ref mm), some (.int kk), none, none, none, none, none] (by decide) (Nat.le_of_ble_eq_true rfl) rfl rfl ?_
  intro Z X E
  have X : gX V Z RX11 cX11_ring 7 ({ frames := 1, cells := 0, slots := 0, locals := 22 }) := X
  refine g_iload_n X dX11_ring_0 rfl ?_
  refine g_iconst X (0) dX11_ring_1 (by decide) ?_
  refine g_bipush X (7) dX11_ring_2 (by decide) ?_
  refine g_callSi X (c_X11_in V kk 0 7) mo_X11_in kl_X11_94 [] [0] rfl (by decide +kernel) rfl rfl (fun _ => Nat.le_of_ble_eq_true rfl) (As := [.int kk, .int 0, .int 7]) (st := []) (cs' := (0, 0)) rfl rfl rfl dX11_ring_4 (fun r_5 u_1 hp_2 ws_4 hw_3 => ?_)
  obtain rfl : r_5 = inF kk 0 7 := hp_2
  have hw_3x : ws_4 = [(mm, .inr (11, [.int le_, .ref mtx, .int po_, .ref mnu, .int fa_, .int rcl_, .int rle_, .ref mrc, .ref mrw, .ref mrl, .int cl_, .ref mki, .ref mwa, .int ls_, .ref mle, .ref mno, .ref mtr, .ref mse, .ref mba, .int ba_, .ref mim, .int km_, .int si_, .ref msi, .ref mfo, .int fm_, .ref mor, .ref mbo, .ref mma, .ref mbm, .ref mso]))] := hw_3.symm
  clear hw_3; subst hw_3x
  refine g_if_ne X 12 dX11_ring_7 (by decide) (fun c7_6 => absurd (inF_0 (fun z => hbad ⟨z.1, Int32.not_lt.mp z.2⟩)) c7_6) (fun c7_6 => ?_)
  refine g_iconst X (-1) dX11_ring_10 (by decide) ?_
  exact g_iret X E dX11_ring_11 () (-1) (by first | rfl | (simp [c7_6]; done)) rfl

set_option maxHeartbeats 4000000 in
set_option maxRecDepth 100000 in
theorem w_pairs_bad (V : gV) (mm : Nat) (mtx : Nat) (mnu : Nat) (mrc : Nat) (mrw : Nat) (mrl : Nat) (mki : Nat) (mwa : Nat) (mle : Nat) (mno : Nat) (mtr : Nat) (mse : Nat) (mba : Nat) (mim : Nat) (msi : Nat) (mfo : Nat) (mor : Nat) (mbo : Nat) (mma : Nat) (mbm : Nat) (mso : Nat) (le_ : Int32) (po_ : Int32) (fa_ : Int32) (rcl_ : Int32) (rle_ : Int32) (n : Nat) (ls_ : Int32) (ba_ : Int32) (km_ : Int32) (si_ : Int32) (fm_ : Int32) (c : Int32) (hn : n ≤ 7) (h1n : 1 ≤ n) (hbad : ¬ (c = -1 ∨ okC n c)) : Ki V yX11_pairs cX11_pairs 3 .int ({ frames := 1, cells := 0, slots := 0, locals := 22 }) [.ref mm, .int c] [(mm, .inr (11, [.int le_, .ref mtx, .int po_, .ref mnu, .int fa_, .int rcl_, .int rle_, .ref mrc, .ref mrw, .ref mrl, .int (nI n), .ref mki, .ref mwa, .int ls_, .ref mle, .ref mno, .ref mtr, .ref mse, .ref mba, .int ba_, .ref mim, .int km_, .int si_, .ref msi, .ref mfo, .int fm_, .ref mor, .ref mbo, .ref mma, .ref mbm, .ref mso]))] (fun (r : Int32) (u : Unit) => r = -1) (fun u => [(mm, .inr (11, [.int le_, .ref mtx, .int po_, .ref mnu, .int fa_, .int rcl_, .int rle_, .ref mrc, .ref mrw, .ref mrl, .int (nI n), .ref mki, .ref mwa, .int ls_, .ref mle, .ref mno, .ref mtr, .ref mse, .ref mba, .int ba_, .ref mim, .int km_, .int si_, .ref msi, .ref mfo, .int fm_, .ref mor, .ref mbo, .ref mma, .ref mbm, .ref mso]))]) := by
  refine Ki.of [some (.ref mm), some (.int c), none] (by decide) (Nat.le_of_ble_eq_true rfl) rfl rfl ?_
  intro Z X E
  have X : gX V Z RX11 cX11_pairs 3 ({ frames := 1, cells := 0, slots := 0, locals := 22 }) := X
  refine g_iload_n X dX11_pairs_0 rfl ?_
  refine g_iconst X (-1) dX11_pairs_1 (by decide) ?_
  refine g_aload_n X dX11_pairs_2 rfl ?_
  refine g_get X uwX11 0 rfl rfl 10 (by decide) kl_X11_91 rfl rfl gwX11 dX11_pairs_3 ?_
  refine g_iconst X (1) dX11_pairs_6 (by decide) ?_
  refine g_isub X dX11_pairs_7 ?_
  refine g_toe (x' := nI (n - 1)) (nI_sub' rfl rfl (by omega)) ?_
  refine g_callSi X (c_X11_in V c (-1) (nI (n - 1))) mo_X11_in kl_X11_94 [] [0] rfl (by decide +kernel) rfl rfl (fun _ => Nat.le_of_ble_eq_true rfl) (As := [.int c, .int (-1), .int (nI (n - 1))]) (st := []) (cs' := (0, 0)) rfl rfl rfl dX11_pairs_8 (fun r_5 u_1 hp_2 ws_4 hw_3 => ?_)
  obtain rfl : r_5 = inF c (-1) (nI (n - 1)) := hp_2
  have hw_3x : ws_4 = [(mm, .inr (11, [.int le_, .ref mtx, .int po_, .ref mnu, .int fa_, .int rcl_, .int rle_, .ref mrc, .ref mrw, .ref mrl, .int (nI n), .ref mki, .ref mwa, .int ls_, .ref mle, .ref mno, .ref mtr, .ref mse, .ref mba, .int ba_, .ref mim, .int km_, .int si_, .ref msi, .ref mfo, .int fm_, .ref mor, .ref mbo, .ref mma, .ref mbm, .ref mso]))] := hw_3.symm
  clear hw_3; subst hw_3x
  refine g_if_ne X 16 dX11_pairs_11 (by decide) (fun c11_6 => ?_) (fun c11_6 => ?_)
  · exact absurd (inF_pr h1n (by omega) c11_6) hbad
  · refine g_iconst X (-1) dX11_pairs_14 (by decide) ?_
    exact g_iret X E dX11_pairs_15 () (-1) (by first | rfl | (simp [c11_6]; done)) rfl
