set_option maxHeartbeats 4000000 in
set_option maxRecDepth 100000 in
theorem w_oils_ok (V : gV) (mm : Nat) (mtx : Nat) (mnu : Nat) (mrc : Nat) (mrw : Nat) (mrl : Nat) (mki : Nat) (mwa : Nat) (mle : Nat) (mno : Nat) (mtr : Nat) (mse : Nat) (mba : Nat) (mim : Nat) (msi : Nat) (mfo : Nat) (mor : Nat) (mbo : Nat) (mma : Nat) (mbm : Nat) (mso : Nat) (le_ : Int32) (po_ : Int32) (fa_ : Int32) (rcl_ : Int32) (rle_ : Int32) (n : Nat) (m : Nat) (ba_ : Int32) (km_ : Int32) (si_ : Int32) (fm_ : Int32) (k : Nat → Int32) (wb : Nat → Int32) (ld : Nat → Nat) (te : Nat → Nat) (pu : Nat → Nat) (day : Int32) (w : Nat → Int32) (g : Nat → Int32) (tr : Nat → Int32) (c : Nat) (v : Nat) (x : Int32) (gi : Nat) (hn : n ≤ 7) (h1n : 1 ≤ n) (hm : m ≤ 9) (ht : ∀ i, i < m → te i < n ∧ pu i < n) (hB : Bd n w) (hc : c < n) (hv : 1 ≤ v ∧ v ≤ 30) (hx1 : ¬ x < 0) (hx2 : x ≤ 100) (hgi : gi < 21) (hgc : g c = nI gi - 10) : Ki V yX11_oils cX11_oils 7 .int ({ frames := 3, cells := 0, slots := 0, locals := 71 }) [.ref mm, .int (nI c), .int (nI v), .int x] [(mm, .inr (11, [.int le_, .ref mtx, .int po_, .ref mnu, .int fa_, .int rcl_, .int rle_, .ref mrc, .ref mrw, .ref mrl, .int (nI n), .ref mki, .ref mwa, .int (nI m), .ref mle, .ref mno, .ref mtr, .ref mse, .ref mba, .int ba_, .ref mim, .int km_, .int si_, .ref msi, .ref mfo, .int fm_, .ref mor, .ref mbo, .ref mma, .ref mbm, .ref mso])), (mki, .inl (V.2.2.1, 7, .inl k)), (mwa, .inl (V.2.2.1, 7, .inl wb)), (mle, .inl (V.2.2.1, 27, .inl (leF ld te pu))), (mno, .inl (V.2.2.1, 15, .inl (stF day w g))), (mtr, .inl (V.2.2.1, 15, .inl tr))] (fun (r : Int32) (u : (Nat → Int32)) => r = oilsF k wb ld te pu n m g day w c v x) (fun u => [(mm, .inr (11, [.int le_, .ref mtx, .int po_, .ref mnu, .int fa_, .int rcl_, .int rle_, .ref mrc, .ref mrw, .ref mrl, .int (nI n), .ref mki, .ref mwa, .int (nI m), .ref mle, .ref mno, .ref mtr, .ref mse, .ref mba, .int ba_, .ref mim, .int km_, .int si_, .ref msi, .ref mfo, .int fm_, .ref mor, .ref mbo, .ref mma, .ref mbm, .ref mso])), (mki, .inl (V.2.2.1, 7, .inl k)), (mwa, .inl (V.2.2.1, 7, .inl wb)), (mle, .inl (V.2.2.1, 27, .inl (leF ld te pu))), (mno, .inl (V.2.2.1, 15, .inl (stF day w g))), (mtr, .inl (V.2.2.1, 15, .inl u))]) := by
  refine Ki.of [some (.ref mm), some (.int (nI c)), some (.int (nI v)), some (.int x), none, none, none] (by decide) (Nat.le_of_ble_eq_true rfl) rfl rfl ?_
  intro Z X E
  have X : gX V Z RX11 cX11_oils 7 ({ frames := 3, cells := 0, slots := 0, locals := 71 }) := X
  have hau := au_le gi hgi
  refine g_aload_n X dX11_oils_0 rfl ?_
  refine g_iload_n X dX11_oils_1 rfl ?_
  refine g_callVi X (c_X11_isClock V mm mtx mnu mrc mrw mrl mki mwa mle mno mtr mse mba mim msi mfo mor mbo mma mbm mso le_ po_ fa_ rcl_ rle_ n (nI m) ba_ km_ si_ fm_ (nI c) (by omega) (by omega)) mo_X11_isClock kl_X11_134 [0] [1, 0, 0, 0, 0, 0] rfl (by decide +kernel) rfl rfl (fun _ => Nat.le_of_ble_eq_true rfl) 0 11 rfl rfl (As := [.int (nI c)]) (st := []) (cs' := (0, 0)) rfl rfl rfl rfl dX11_oils_2 (fun r_5 u_1 hp_2 ws_4 hw_3 => ?_)
  obtain rfl : r_5 = (if okC n (nI c) then 1 else 0) := hp_2
  have hw_3x : ws_4 = [(mm, .inr (11, [.int le_, .ref mtx, .int po_, .ref mnu, .int fa_, .int rcl_, .int rle_, .ref mrc, .ref mrw, .ref mrl, .int (nI n), .ref mki, .ref mwa, .int (nI m), .ref mle, .ref mno, .ref mtr, .ref mse, .ref mba, .int ba_, .ref mim, .int km_, .int si_, .ref msi, .ref mfo, .int fm_, .ref mor, .ref mbo, .ref mma, .ref mbm, .ref mso])), (mki, .inl (V.2.2.1, 7, .inl k)), (mwa, .inl (V.2.2.1, 7, .inl wb)), (mle, .inl (V.2.2.1, 27, .inl (leF ld te pu))), (mno, .inl (V.2.2.1, 15, .inl (stF day w g))), (mtr, .inl (V.2.2.1, 15, .inl tr))] := hw_3.symm
  clear hw_3; subst hw_3x
  refine g_if_eq X 28 dX11_oils_5 (by decide) (fun c5_6 => absurd c5_6 (by rw [if_pos (okC_nI hc (by omega))]; decide)) (fun c5_6 => ?_)
  refine g_iload_n X dX11_oils_8 rfl ?_
  refine g_iconst X (1) dX11_oils_9 (by decide) ?_
  refine g_bipush X (30) dX11_oils_10 (by decide) ?_
  refine g_callSi X (c_X11_in V (nI v) 1 30) mo_X11_in kl_X11_94 [] [0, 0, 0, 0, 0, 0] rfl (by decide +kernel) rfl rfl (fun _ => Nat.le_of_ble_eq_true rfl) (As := [.int (nI v), .int 1, .int 30]) (st := []) (cs' := (0, 0)) rfl rfl rfl dX11_oils_12 (fun r_11 u_7 hp_8 ws_10 hw_9 => ?_)
  obtain rfl : r_11 = inF (nI v) 1 30 := hp_8
  have hw_9x : ws_10 = [(mm, .inr (11, [.int le_, .ref mtx, .int po_, .ref mnu, .int fa_, .int rcl_, .int rle_, .ref mrc, .ref mrw, .ref mrl, .int (nI n), .ref mki, .ref mwa, .int (nI m), .ref mle, .ref mno, .ref mtr, .ref mse, .ref mba, .int ba_, .ref mim, .int km_, .int si_, .ref msi, .ref mfo, .int fm_, .ref mor, .ref mbo, .ref mma, .ref mbm, .ref mso])), (mki, .inl (V.2.2.1, 7, .inl k)), (mwa, .inl (V.2.2.1, 7, .inl wb)), (mle, .inl (V.2.2.1, 27, .inl (leF ld te pu))), (mno, .inl (V.2.2.1, 15, .inl (stF day w g))), (mtr, .inl (V.2.2.1, 15, .inl tr))] := hw_9.symm
  clear hw_9; subst hw_9x
  refine g_if_eq X 28 dX11_oils_15 (by decide) (fun c15_12 => absurd c15_12 (inF_ne (v := v) (lo := 1) (hi := 30) (by omega) (by omega))) (fun c15_12 => ?_)
  refine g_iload_n X dX11_oils_18 rfl ?_
  refine g_iconst X (0) dX11_oils_19 (by decide) ?_
  refine g_bipush X (100) dX11_oils_20 (by decide) ?_
  refine g_callSi X (c_X11_in V x 0 100) mo_X11_in kl_X11_94 [] [0, 0, 0, 0, 0, 0] rfl (by decide +kernel) rfl rfl (fun _ => Nat.le_of_ble_eq_true rfl) (As := [.int x, .int 0, .int 100]) (st := []) (cs' := (0, 0)) rfl rfl rfl dX11_oils_22 (fun r_17 u_13 hp_14 ws_16 hw_15 => ?_)
  obtain rfl : r_17 = inF x 0 100 := hp_14
  have hw_15x : ws_16 = [(mm, .inr (11, [.int le_, .ref mtx, .int po_, .ref mnu, .int fa_, .int rcl_, .int rle_, .ref mrc, .ref mrw, .ref mrl, .int (nI n), .ref mki, .ref mwa, .int (nI m), .ref mle, .ref mno, .ref mtr, .ref mse, .ref mba, .int ba_, .ref mim, .int km_, .int si_, .ref msi, .ref mfo, .int fm_, .ref mor, .ref mbo, .ref mma, .ref mbm, .ref mso])), (mki, .inl (V.2.2.1, 7, .inl k)), (mwa, .inl (V.2.2.1, 7, .inl wb)), (mle, .inl (V.2.2.1, 27, .inl (leF ld te pu))), (mno, .inl (V.2.2.1, 15, .inl (stF day w g))), (mtr, .inl (V.2.2.1, 15, .inl tr))] := hw_15.symm
  clear hw_15; subst hw_15x
  refine g_if_ne X 30 dX11_oils_25 (by decide) (fun c25_18 => ?_) (fun c25_18 => absurd c25_18 (by rw [inF_1 hx1 (Int32.not_lt.mpr hx2)]; decide))
  refine g_aload_n X dX11_oils_30 rfl ?_
  refine g_get X uwX11 0 rfl rfl 15 (by decide) kl_X11_34 rfl rfl gwX11 dX11_oils_31 ?_
  refine g_bipush X (8) dX11_oils_34 (by decide) ?_
  refine g_iload_n X dX11_oils_36 rfl ?_
  refine g_iadd X dX11_oils_37 ?_
  refine g_toe (x' := nI (8 + c)) (nI_add' rfl rfl) ?_
  refine g_iald' X 4 rfl (i := (8 + c)) rfl (by omega) (by omega) dX11_oils_38 ?_
  refine g_toe (x' := g c) (stF_g _ _ _ c) ?_
  refine g_istore X (L' := [some (.ref mm), some (.int (nI c)), some (.int (nI v)), some (.int x), some (.int (g c)), none, none]) dX11_oils_39 (by decide) rfl rfl ?_
  refine g_iconst X (0) dX11_oils_41 (by decide) ?_
  refine g_istore X (L' := [some (.ref mm), some (.int (nI c)), some (.int (nI v)), some (.int x), some (.int (g c)), some (.int 0), none]) dX11_oils_42 (by decide) rfl rfl ?_
  have loop44_19 : ∀ (d44 tt : Nat), tt + d44 = auN gi + 1 → ∀ (tr1 : Nat → Int32) (h0 : fst1 (oilsP k wb ld te pu n m g day w c v x) tt = none), G V Z 7 (0, 0) [(mm, .inr (11, [.int le_, .ref mtx, .int po_, .ref mnu, .int fa_, .int rcl_, .int rle_, .ref mrc, .ref mrw, .ref mrl, .int (nI n), .ref mki, .ref mwa, .int (nI m), .ref mle, .ref mno, .ref mtr, .ref mse, .ref mba, .int ba_, .ref mim, .int km_, .int si_, .ref msi, .ref mfo, .int fm_, .ref mor, .ref mbo, .ref mma, .ref mbm, .ref mso])), (mki, .inl (V.2.2.1, 7, .inl k)), (mwa, .inl (V.2.2.1, 7, .inl wb)), (mle, .inl (V.2.2.1, 27, .inl (leF ld te pu))), (mno, .inl (V.2.2.1, 15, .inl (stF day w g))), (mtr, .inl (V.2.2.1, 15, .inl tr1))] 44 [some (.ref mm), some (.int (nI c)), some (.int (nI v)), some (.int x), some (.int (g c)), some (.int (nI tt)), none] [] := by
    intro d44
    induction d44 with
    | zero =>
      intro tt htt tr1 h0
      refine g_iload X dX11_oils_44 rfl ?_
      refine g_iload X dX11_oils_46 rfl ?_
      refine g_callSi X (c_X11_far V (g c)) mo_X11_far kl_X11_151 [] [0, 0, 0, 0, 0, 0] rfl (by decide +kernel) rfl rfl (fun _ => Nat.le_of_ble_eq_true rfl) (As := [.int (g c)]) (st := [.int (nI tt)]) (cs' := (0, 0)) rfl rfl rfl dX11_oils_48 (fun r_24 u_20 hp_21 ws_23 hw_22 => ?_)
      obtain rfl : r_24 = absF (g c) := hp_21
      have hw_22x : ws_23 = [(mm, .inr (11, [.int le_, .ref mtx, .int po_, .ref mnu, .int fa_, .int rcl_, .int rle_, .ref mrc, .ref mrw, .ref mrl, .int (nI n), .ref mki, .ref mwa, .int (nI m), .ref mle, .ref mno, .ref mtr, .ref mse, .ref mba, .int ba_, .ref mim, .int km_, .int si_, .ref msi, .ref mfo, .int fm_, .ref mor, .ref mbo, .ref mma, .ref mbm, .ref mso])), (mki, .inl (V.2.2.1, 7, .inl k)), (mwa, .inl (V.2.2.1, 7, .inl wb)), (mle, .inl (V.2.2.1, 27, .inl (leF ld te pu))), (mno, .inl (V.2.2.1, 15, .inl (stF day w g))), (mtr, .inl (V.2.2.1, 15, .inl tr1))] := hw_22.symm
      clear hw_22; subst hw_22x
      refine g_toe (x' := nI (auN gi)) (by rw [hgc]; exact au_abs gi hgi) ?_
      refine g_icmp_gt X 142 dX11_oils_51 (by decide) (fun c51_25 => ?_) (fun c51_25 => absurd (tgt (a := tt) (b := auN gi) (by omega) (by omega) (by omega)) c51_25)
      refine g_bipush X (-4) dX11_oils_142 (by decide) ?_
      exact g_iret X E dX11_oils_144 tr1 (-4) (oils_no hgi hgc (by have e : tt = auN gi + 1 := (by omega); subst e; exact h0)) rfl
    | succ d44 ih44 =>
      intro tt htt tr1 h0
      refine g_iload X dX11_oils_44 rfl ?_
      refine g_iload X dX11_oils_46 rfl ?_
      refine g_callSi X (c_X11_far V (g c)) mo_X11_far kl_X11_151 [] [0, 0, 0, 0, 0, 0] rfl (by decide +kernel) rfl rfl (fun _ => Nat.le_of_ble_eq_true rfl) (As := [.int (g c)]) (st := [.int (nI tt)]) (cs' := (0, 0)) rfl rfl rfl dX11_oils_48 (fun r_30 u_26 hp_27 ws_29 hw_28 => ?_)
      obtain rfl : r_30 = absF (g c) := hp_27
      have hw_28x : ws_29 = [(mm, .inr (11, [.int le_, .ref mtx, .int po_, .ref mnu, .int fa_, .int rcl_, .int rle_, .ref mrc, .ref mrw, .ref mrl, .int (nI n), .ref mki, .ref mwa, .int (nI m), .ref mle, .ref mno, .ref mtr, .ref mse, .ref mba, .int ba_, .ref mim, .int km_, .int si_, .ref msi, .ref mfo, .int fm_, .ref mor, .ref mbo, .ref mma, .ref mbm, .ref mso])), (mki, .inl (V.2.2.1, 7, .inl k)), (mwa, .inl (V.2.2.1, 7, .inl wb)), (mle, .inl (V.2.2.1, 27, .inl (leF ld te pu))), (mno, .inl (V.2.2.1, 15, .inl (stF day w g))), (mtr, .inl (V.2.2.1, 15, .inl tr1))] := hw_28.symm
      clear hw_28; subst hw_28x
      refine g_toe (x' := nI (auN gi)) (by rw [hgc]; exact au_abs gi hgi) ?_
      refine g_icmp_gt X 142 dX11_oils_51 (by decide) (fun c51_31 => absurd c51_31 (fgt (a := tt) (b := auN gi) (by omega) (by omega) (by omega))) (fun c51_31 => ?_)
      refine g_aload_n X dX11_oils_54 rfl ?_
      refine g_get X uwX11 0 rfl rfl 15 (by decide) kl_X11_34 rfl rfl gwX11 dX11_oils_55 ?_
      refine g_iconst X (0) dX11_oils_58 (by decide) ?_
      refine g_aload_n X dX11_oils_59 rfl ?_
      refine g_get X uwX11 0 rfl rfl 16 (by decide) kl_X11_37 rfl rfl gwX11 dX11_oils_60 ?_
      refine g_iconst X (0) dX11_oils_63 (by decide) ?_
      refine g_callSv X (c_X11_copy V mno 15 (stF day w g) mtr 15 tr1 0 0 (by omega) (by omega) (by omega) (by omega)) mo_X11_copy kl_X11_165 [4, 5] [0, 0, 0, 0, 1, 2] rfl (by decide +kernel) rfl rfl (fun _ => Nat.le_of_ble_eq_true rfl) (As := [.ref mno, .int 0, .ref mtr, .int 0]) (st := []) (cs' := (0, 0)) rfl rfl rfl dX11_oils_64 (fun u_32 hp_33 ws_35 hw_34 => ?_)
      have hw_34x : ws_35 = [(mm, .inr (11, [.int le_, .ref mtx, .int po_, .ref mnu, .int fa_, .int rcl_, .int rle_, .ref mrc, .ref mrw, .ref mrl, .int (nI n), .ref mki, .ref mwa, .int (nI m), .ref mle, .ref mno, .ref mtr, .ref mse, .ref mba, .int ba_, .ref mim, .int km_, .int si_, .ref msi, .ref mfo, .int fm_, .ref mor, .ref mbo, .ref mma, .ref mbm, .ref mso])), (mki, .inl (V.2.2.1, 7, .inl k)), (mwa, .inl (V.2.2.1, 7, .inl wb)), (mle, .inl (V.2.2.1, 27, .inl (leF ld te pu))), (mno, .inl (V.2.2.1, 15, .inl (stF day w g))), (mtr, .inl (V.2.2.1, 15, .inl (cpM 0 0 (stF day w g) tr1)))] := hw_34.symm
      clear hw_34; subst hw_34x
      refine g_arr 5 (stF day w g) rfl cpM_0 (ws' := [(mm, .inr (11, [.int le_, .ref mtx, .int po_, .ref mnu, .int fa_, .int rcl_, .int rle_, .ref mrc, .ref mrw, .ref mrl, .int (nI n), .ref mki, .ref mwa, .int (nI m), .ref mle, .ref mno, .ref mtr, .ref mse, .ref mba, .int ba_, .ref mim, .int km_, .int si_, .ref msi, .ref mfo, .int fm_, .ref mor, .ref mbo, .ref mma, .ref mbm, .ref mso])), (mki, .inl (V.2.2.1, 7, .inl k)), (mwa, .inl (V.2.2.1, 7, .inl wb)), (mle, .inl (V.2.2.1, 27, .inl (leF ld te pu))), (mno, .inl (V.2.2.1, 15, .inl (stF day w g))), (mtr, .inl (V.2.2.1, 15, .inl (stF day w g)))]) rfl ?_
      refine g_aload_n X dX11_oils_67 rfl ?_
      refine g_get X uwX11 0 rfl rfl 16 (by decide) kl_X11_37 rfl rfl gwX11 dX11_oils_68 ?_
      refine g_bipush X (8) dX11_oils_71 (by decide) ?_
      refine g_iload_n X dX11_oils_73 rfl ?_
      refine g_iadd X dX11_oils_74 ?_
      refine g_toe (x' := nI (8 + c)) (nI_add' rfl rfl) ?_
      refine g_iload X dX11_oils_75 rfl ?_
      refine g_if_le X 88 dX11_oils_77 (by decide) (fun c77_37 => ?_) (fun c77_37 => ?_)
      · have c77_37d := Int32.not_lt.mpr c77_37
        refine g_iload X dX11_oils_88 rfl ?_
        refine g_iload X dX11_oils_90 rfl ?_
        refine g_iadd X dX11_oils_92 ?_
        refine g_iast' X 5 rfl (i := (8 + c)) rfl (by omega) (by omega) (ws' := [(mm, .inr (11, [.int le_, .ref mtx, .int po_, .ref mnu, .int fa_, .int rcl_, .int rle_, .ref mrc, .ref mrw, .ref mrl, .int (nI n), .ref mki, .ref mwa, .int (nI m), .ref mle, .ref mno, .ref mtr, .ref mse, .ref mba, .int ba_, .ref mim, .int km_, .int si_, .ref msi, .ref mfo, .int fm_, .ref mor, .ref mbo, .ref mma, .ref mbm, .ref mso])), (mki, .inl (V.2.2.1, 7, .inl k)), (mwa, .inl (V.2.2.1, 7, .inl wb)), (mle, .inl (V.2.2.1, 27, .inl (leF ld te pu))), (mno, .inl (V.2.2.1, 15, .inl (stF day w g))), (mtr, .inl (V.2.2.1, 15, .inl (upd (stF day w g) (8 + c) ((g c) + (nI tt)))))]) rfl dX11_oils_93 ?_
        refine g_arr 5 (stF day w (upd g c ((g c) + (nI tt)))) rfl (stF_ug _ _ _ _ c (by omega)) (ws' := [(mm, .inr (11, [.int le_, .ref mtx, .int po_, .ref mnu, .int fa_, .int rcl_, .int rle_, .ref mrc, .ref mrw, .ref mrl, .int (nI n), .ref mki, .ref mwa, .int (nI m), .ref mle, .ref mno, .ref mtr, .ref mse, .ref mba, .int ba_, .ref mim, .int km_, .int si_, .ref msi, .ref mfo, .int fm_, .ref mor, .ref mbo, .ref mma, .ref mbm, .ref mso])), (mki, .inl (V.2.2.1, 7, .inl k)), (mwa, .inl (V.2.2.1, 7, .inl wb)), (mle, .inl (V.2.2.1, 27, .inl (leF ld te pu))), (mno, .inl (V.2.2.1, 15, .inl (stF day w g))), (mtr, .inl (V.2.2.1, 15, .inl (stF day w (upd g c ((g c) + (nI tt))))))]) rfl ?_
        refine g_arr 5 (stF day w (goilF c tt g)) rfl (fun j _ => by rw [goil_T hgi hgc (by omega) (Int32.not_lt.mpr c77_37)]) (ws' := [(mm, .inr (11, [.int le_, .ref mtx, .int po_, .ref mnu, .int fa_, .int rcl_, .int rle_, .ref mrc, .ref mrw, .ref mrl, .int (nI n), .ref mki, .ref mwa, .int (nI m), .ref mle, .ref mno, .ref mtr, .ref mse, .ref mba, .int ba_, .ref mim, .int km_, .int si_, .ref msi, .ref mfo, .int fm_, .ref mor, .ref mbo, .ref mma, .ref mbm, .ref mso])), (mki, .inl (V.2.2.1, 7, .inl k)), (mwa, .inl (V.2.2.1, 7, .inl wb)), (mle, .inl (V.2.2.1, 27, .inl (leF ld te pu))), (mno, .inl (V.2.2.1, 15, .inl (stF day w g))), (mtr, .inl (V.2.2.1, 15, .inl (stF day w (goilF c tt g))))]) rfl ?_
        refine g_iconst X (0) dX11_oils_94 (by decide) ?_
        refine g_istore X (L' := [some (.ref mm), some (.int (nI c)), some (.int (nI v)), some (.int x), some (.int (g c)), some (.int (nI tt)), some (.int 0)]) dX11_oils_95 (by decide) rfl rfl ?_
        have loop97_38 : ∀ (d97 i : Nat), i + d97 = v → ∀ (dy : Int32) (w1 : Nat → Int32) (hB1 : Bd n w1) (h1 : w1 = daysF k wb ld te pu n m (goilF c tt g) day i w) (h2 : dy = day + nI i), G V Z 7 (0, 0) [(mm, .inr (11, [.int le_, .ref mtx, .int po_, .ref mnu, .int fa_, .int rcl_, .int rle_, .ref mrc, .ref mrw, .ref mrl, .int (nI n), .ref mki, .ref mwa, .int (nI m), .ref mle, .ref mno, .ref mtr, .ref mse, .ref mba, .int ba_, .ref mim, .int km_, .int si_, .ref msi, .ref mfo, .int fm_, .ref mor, .ref mbo, .ref mma, .ref mbm, .ref mso])), (mki, .inl (V.2.2.1, 7, .inl k)), (mwa, .inl (V.2.2.1, 7, .inl wb)), (mle, .inl (V.2.2.1, 27, .inl (leF ld te pu))), (mno, .inl (V.2.2.1, 15, .inl (stF day w g))), (mtr, .inl (V.2.2.1, 15, .inl (stF dy w1 (goilF c tt g))))] 97 [some (.ref mm), some (.int (nI c)), some (.int (nI v)), some (.int x), some (.int (g c)), some (.int (nI tt)), some (.int (nI i))] [] := by
          intro d97
          induction d97 with
          | zero =>
            intro i hi dy w1 hB1 h1 h2
            refine g_iload X dX11_oils_97 rfl ?_
            refine g_iload_n X dX11_oils_99 rfl ?_
            refine g_icmp_ge X 118 dX11_oils_100 (by decide) (fun c100_39 => ?_) (fun c100_39 => absurd (tge (a := i) (b := v) (by omega) (by omega) (by omega)) c100_39)
            refine g_aload_n X dX11_oils_118 rfl ?_
            refine g_get X uwX11 0 rfl rfl 16 (by decide) kl_X11_37 rfl rfl gwX11 dX11_oils_119 ?_
            refine g_iconst X (1) dX11_oils_122 (by decide) ?_
            refine g_iload_n X dX11_oils_123 rfl ?_
            refine g_iadd X dX11_oils_124 ?_
            refine g_toe (x' := nI (1 + c)) (nI_add' rfl rfl) ?_
            refine g_iald' X 5 rfl (i := (1 + c)) rfl (by omega) (by omega) dX11_oils_125 ?_
            refine g_toe (x' := w1 c) (stF_w _ _ _ c (by omega)) ?_
            refine g_callSi X (c_X11_far V (w1 c)) mo_X11_far kl_X11_151 [] [0, 0, 0, 0, 0, 0] rfl (by decide +kernel) rfl rfl (fun _ => Nat.le_of_ble_eq_true rfl) (As := [.int (w1 c)]) (st := []) (cs' := (0, 0)) rfl rfl rfl dX11_oils_126 (fun r_44 u_40 hp_41 ws_43 hw_42 => ?_)
            obtain rfl : r_44 = absF (w1 c) := hp_41
            have hw_42x : ws_43 = [(mm, .inr (11, [.int le_, .ref mtx, .int po_, .ref mnu, .int fa_, .int rcl_, .int rle_, .ref mrc, .ref mrw, .ref mrl, .int (nI n), .ref mki, .ref mwa, .int (nI m), .ref mle, .ref mno, .ref mtr, .ref mse, .ref mba, .int ba_, .ref mim, .int km_, .int si_, .ref msi, .ref mfo, .int fm_, .ref mor, .ref mbo, .ref mma, .ref mbm, .ref mso])), (mki, .inl (V.2.2.1, 7, .inl k)), (mwa, .inl (V.2.2.1, 7, .inl wb)), (mle, .inl (V.2.2.1, 27, .inl (leF ld te pu))), (mno, .inl (V.2.2.1, 15, .inl (stF day w g))), (mtr, .inl (V.2.2.1, 15, .inl (stF dy w1 (goilF c tt g))))] := hw_42.symm
            clear hw_42; subst hw_42x
            refine g_iload_n X dX11_oils_129 rfl ?_
            refine g_icmp_gt X 136 dX11_oils_130 (by decide) (fun c130_45 => ?_) (fun c130_45 => ?_)
            · have c130_45d := Int32.not_le.mpr c130_45
              refine g_iinc X (v := nI (tt + 1)) (L' := [some (.ref mm), some (.int (nI c)), some (.int (nI v)), some (.int x), some (.int (g c)), some (.int (nI (tt + 1))), some (.int (nI i))]) dX11_oils_136 rfl (nI_addk (by decide)) (by decide) rfl rfl ?_
              refine g_goto X 44 dX11_oils_139 (by decide) ?_
              refine g_sub (L' := [some (.ref mm), some (.int (nI c)), some (.int (nI v)), some (.int x), some (.int (g c)), some (.int (nI (tt + 1))), none]) ⟨rfl, ⟨rfl, ⟨rfl, ⟨rfl, ⟨rfl, ⟨rfl, trivial⟩⟩⟩⟩⟩⟩ ?_
              exact ih44 (tt + 1) (by omega) (stF dy w1 (goilF c tt g)) (fst1_n h0 (by have e : i = v := (by omega); subst e; rw [oilsP, ← h1, if_neg c130_45d]))
            · have c130_45d := Int32.not_lt.mp c130_45
              refine g_iload X dX11_oils_133 rfl ?_
              exact g_iret X E dX11_oils_135 (stF dy w1 (goilF c tt g)) (nI tt) (by have e : i = v := (by omega); subst e; rw [oilsF, fst1_at (r := nI tt) h0 (by rw [oilsP, ← h1, if_pos c130_45d]) (by omega)]; rfl) rfl
          | succ d97 ih97 =>
            intro i hi dy w1 hB1 h1 h2
            refine g_iload X dX11_oils_97 rfl ?_
            refine g_iload_n X dX11_oils_99 rfl ?_
            refine g_icmp_ge X 118 dX11_oils_100 (by decide) (fun c100_46 => absurd c100_46 (fge (a := i) (b := v) (by omega) (by omega) (by omega))) (fun c100_46 => ?_)
            refine g_aload_n X dX11_oils_103 rfl ?_
            refine g_aload_n X dX11_oils_104 rfl ?_
            refine g_get X uwX11 0 rfl rfl 16 (by decide) kl_X11_37 rfl rfl gwX11 dX11_oils_105 ?_
            refine g_iconst X (1) dX11_oils_108 (by decide) ?_
            refine g_callVv X (c_X11_passOn V mm mtx mnu mrc mrw mrl mki mwa mle mno mtr mse mba mim msi mfo mor mbo mma mbm mso le_ po_ fa_ rcl_ rle_ n m ba_ km_ si_ fm_ k wb ld te pu dy w1 (goilF c tt g) mtr 1 (by omega) (by omega) (by omega) ht hB1) mo_X11_passOn kl_X11_172 [0, 1, 2, 3, 5] [1, 2, 3, 4, 0, 5] rfl (by decide +kernel) rfl rfl (fun _ => Nat.le_of_ble_eq_true rfl) 0 11 rfl rfl (As := [.ref mtr, .int 1]) (st := []) (cs' := (0, 0)) rfl rfl rfl rfl dX11_oils_109 (fun nw_47 hp_48 ws_50 hw_49 => ?_)
            obtain rfl : nw_47 = dayF k wb ld te pu n m (goilF c tt g) 1 dy w1 := hp_48
            have hw_49x : ws_50 = [(mm, .inr (11, [.int le_, .ref mtx, .int po_, .ref mnu, .int fa_, .int rcl_, .int rle_, .ref mrc, .ref mrw, .ref mrl, .int (nI n), .ref mki, .ref mwa, .int (nI m), .ref mle, .ref mno, .ref mtr, .ref mse, .ref mba, .int ba_, .ref mim, .int km_, .int si_, .ref msi, .ref mfo, .int fm_, .ref mor, .ref mbo, .ref mma, .ref mbm, .ref mso])), (mki, .inl (V.2.2.1, 7, .inl k)), (mwa, .inl (V.2.2.1, 7, .inl wb)), (mle, .inl (V.2.2.1, 27, .inl (leF ld te pu))), (mno, .inl (V.2.2.1, 15, .inl (stF day w g))), (mtr, .inl (V.2.2.1, 15, .inl (stF (dy + 1) (dayF k wb ld te pu n m (goilF c tt g) 1 dy w1) (goilF c tt g))))] := hw_49.symm
            clear hw_49; subst hw_49x
            refine g_iinc X (v := nI (i + 1)) (L' := [some (.ref mm), some (.int (nI c)), some (.int (nI v)), some (.int x), some (.int (g c)), some (.int (nI tt)), some (.int (nI (i + 1)))]) dX11_oils_112 rfl (nI_addk (by decide)) (by decide) rfl rfl ?_
            refine g_goto X 97 dX11_oils_115 (by decide) ?_
            exact ih97 (i + 1) (by omega) (dy + 1) (dayF k wb ld te pu n m (goilF c tt g) 1 dy w1) Bd_day (by rw [daysF, it_s, ← daysF, ← h1, ← h2]) (by rw [h2, Int32.add_assoc, nI_1])
        exact loop97_38 v 0 (by omega) day w hB rfl (by rw [nI_0, Int32.add_zero])
      · have c77_37d := Int32.not_le.mp c77_37
        refine g_iload X dX11_oils_80 rfl ?_
        refine g_iload X dX11_oils_82 rfl ?_
        refine g_isub X dX11_oils_84 ?_
        refine g_goto X 93 dX11_oils_85 (by decide) ?_
        refine g_iast' X 5 rfl (i := (8 + c)) rfl (by omega) (by omega) (ws' := [(mm, .inr (11, [.int le_, .ref mtx, .int po_, .ref mnu, .int fa_, .int rcl_, .int rle_, .ref mrc, .ref mrw, .ref mrl, .int (nI n), .ref mki, .ref mwa, .int (nI m), .ref mle, .ref mno, .ref mtr, .ref mse, .ref mba, .int ba_, .ref mim, .int km_, .int si_, .ref msi, .ref mfo, .int fm_, .ref mor, .ref mbo, .ref mma, .ref mbm, .ref mso])), (mki, .inl (V.2.2.1, 7, .inl k)), (mwa, .inl (V.2.2.1, 7, .inl wb)), (mle, .inl (V.2.2.1, 27, .inl (leF ld te pu))), (mno, .inl (V.2.2.1, 15, .inl (stF day w g))), (mtr, .inl (V.2.2.1, 15, .inl (upd (stF day w g) (8 + c) ((g c) - (nI tt)))))]) rfl dX11_oils_93 ?_
        refine g_arr 5 (stF day w (upd g c ((g c) - (nI tt)))) rfl (stF_ug _ _ _ _ c (by omega)) (ws' := [(mm, .inr (11, [.int le_, .ref mtx, .int po_, .ref mnu, .int fa_, .int rcl_, .int rle_, .ref mrc, .ref mrw, .ref mrl, .int (nI n), .ref mki, .ref mwa, .int (nI m), .ref mle, .ref mno, .ref mtr, .ref mse, .ref mba, .int ba_, .ref mim, .int km_, .int si_, .ref msi, .ref mfo, .int fm_, .ref mor, .ref mbo, .ref mma, .ref mbm, .ref mso])), (mki, .inl (V.2.2.1, 7, .inl k)), (mwa, .inl (V.2.2.1, 7, .inl wb)), (mle, .inl (V.2.2.1, 27, .inl (leF ld te pu))), (mno, .inl (V.2.2.1, 15, .inl (stF day w g))), (mtr, .inl (V.2.2.1, 15, .inl (stF day w (upd g c ((g c) - (nI tt))))))]) rfl ?_
        refine g_arr 5 (stF day w (goilF c tt g)) rfl (fun j _ => by rw [goil_F hgi hgc (by omega) c77_37d]) (ws' := [(mm, .inr (11, [.int le_, .ref mtx, .int po_, .ref mnu, .int fa_, .int rcl_, .int rle_, .ref mrc, .ref mrw, .ref mrl, .int (nI n), .ref mki, .ref mwa, .int (nI m), .ref mle, .ref mno, .ref mtr, .ref mse, .ref mba, .int ba_, .ref mim, .int km_, .int si_, .ref msi, .ref mfo, .int fm_, .ref mor, .ref mbo, .ref mma, .ref mbm, .ref mso])), (mki, .inl (V.2.2.1, 7, .inl k)), (mwa, .inl (V.2.2.1, 7, .inl wb)), (mle, .inl (V.2.2.1, 27, .inl (leF ld te pu))), (mno, .inl (V.2.2.1, 15, .inl (stF day w g))), (mtr, .inl (V.2.2.1, 15, .inl (stF day w (goilF c tt g))))]) rfl ?_
        refine g_iconst X (0) dX11_oils_94 (by decide) ?_
        refine g_istore X (L' := [some (.ref mm), some (.int (nI c)), some (.int (nI v)), some (.int x), some (.int (g c)), some (.int (nI tt)), some (.int 0)]) dX11_oils_95 (by decide) rfl rfl ?_
        have loop97_52 : ∀ (d97 i : Nat), i + d97 = v → ∀ (dy : Int32) (w1 : Nat → Int32) (hB1 : Bd n w1) (h1 : w1 = daysF k wb ld te pu n m (goilF c tt g) day i w) (h2 : dy = day + nI i), G V Z 7 (0, 0) [(mm, .inr (11, [.int le_, .ref mtx, .int po_, .ref mnu, .int fa_, .int rcl_, .int rle_, .ref mrc, .ref mrw, .ref mrl, .int (nI n), .ref mki, .ref mwa, .int (nI m), .ref mle, .ref mno, .ref mtr, .ref mse, .ref mba, .int ba_, .ref mim, .int km_, .int si_, .ref msi, .ref mfo, .int fm_, .ref mor, .ref mbo, .ref mma, .ref mbm, .ref mso])), (mki, .inl (V.2.2.1, 7, .inl k)), (mwa, .inl (V.2.2.1, 7, .inl wb)), (mle, .inl (V.2.2.1, 27, .inl (leF ld te pu))), (mno, .inl (V.2.2.1, 15, .inl (stF day w g))), (mtr, .inl (V.2.2.1, 15, .inl (stF dy w1 (goilF c tt g))))] 97 [some (.ref mm), some (.int (nI c)), some (.int (nI v)), some (.int x), some (.int (g c)), some (.int (nI tt)), some (.int (nI i))] [] := by
          intro d97
          induction d97 with
          | zero =>
            intro i hi dy w1 hB1 h1 h2
            refine g_iload X dX11_oils_97 rfl ?_
            refine g_iload_n X dX11_oils_99 rfl ?_
            refine g_icmp_ge X 118 dX11_oils_100 (by decide) (fun c100_53 => ?_) (fun c100_53 => absurd (tge (a := i) (b := v) (by omega) (by omega) (by omega)) c100_53)
            refine g_aload_n X dX11_oils_118 rfl ?_
            refine g_get X uwX11 0 rfl rfl 16 (by decide) kl_X11_37 rfl rfl gwX11 dX11_oils_119 ?_
            refine g_iconst X (1) dX11_oils_122 (by decide) ?_
            refine g_iload_n X dX11_oils_123 rfl ?_
            refine g_iadd X dX11_oils_124 ?_
            refine g_toe (x' := nI (1 + c)) (nI_add' rfl rfl) ?_
            refine g_iald' X 5 rfl (i := (1 + c)) rfl (by omega) (by omega) dX11_oils_125 ?_
            refine g_toe (x' := w1 c) (stF_w _ _ _ c (by omega)) ?_
            refine g_callSi X (c_X11_far V (w1 c)) mo_X11_far kl_X11_151 [] [0, 0, 0, 0, 0, 0] rfl (by decide +kernel) rfl rfl (fun _ => Nat.le_of_ble_eq_true rfl) (As := [.int (w1 c)]) (st := []) (cs' := (0, 0)) rfl rfl rfl dX11_oils_126 (fun r_58 u_54 hp_55 ws_57 hw_56 => ?_)
            obtain rfl : r_58 = absF (w1 c) := hp_55
            have hw_56x : ws_57 = [(mm, .inr (11, [.int le_, .ref mtx, .int po_, .ref mnu, .int fa_, .int rcl_, .int rle_, .ref mrc, .ref mrw, .ref mrl, .int (nI n), .ref mki, .ref mwa, .int (nI m), .ref mle, .ref mno, .ref mtr, .ref mse, .ref mba, .int ba_, .ref mim, .int km_, .int si_, .ref msi, .ref mfo, .int fm_, .ref mor, .ref mbo, .ref mma, .ref mbm, .ref mso])), (mki, .inl (V.2.2.1, 7, .inl k)), (mwa, .inl (V.2.2.1, 7, .inl wb)), (mle, .inl (V.2.2.1, 27, .inl (leF ld te pu))), (mno, .inl (V.2.2.1, 15, .inl (stF day w g))), (mtr, .inl (V.2.2.1, 15, .inl (stF dy w1 (goilF c tt g))))] := hw_56.symm
            clear hw_56; subst hw_56x
            refine g_iload_n X dX11_oils_129 rfl ?_
            refine g_icmp_gt X 136 dX11_oils_130 (by decide) (fun c130_59 => ?_) (fun c130_59 => ?_)
            · have c130_59d := Int32.not_le.mpr c130_59
              refine g_iinc X (v := nI (tt + 1)) (L' := [some (.ref mm), some (.int (nI c)), some (.int (nI v)), some (.int x), some (.int (g c)), some (.int (nI (tt + 1))), some (.int (nI i))]) dX11_oils_136 rfl (nI_addk (by decide)) (by decide) rfl rfl ?_
              refine g_goto X 44 dX11_oils_139 (by decide) ?_
              refine g_sub (L' := [some (.ref mm), some (.int (nI c)), some (.int (nI v)), some (.int x), some (.int (g c)), some (.int (nI (tt + 1))), none]) ⟨rfl, ⟨rfl, ⟨rfl, ⟨rfl, ⟨rfl, ⟨rfl, trivial⟩⟩⟩⟩⟩⟩ ?_
              exact ih44 (tt + 1) (by omega) (stF dy w1 (goilF c tt g)) (fst1_n h0 (by have e : i = v := (by omega); subst e; rw [oilsP, ← h1, if_neg c130_59d]))
            · have c130_59d := Int32.not_lt.mp c130_59
              refine g_iload X dX11_oils_133 rfl ?_
              exact g_iret X E dX11_oils_135 (stF dy w1 (goilF c tt g)) (nI tt) (by have e : i = v := (by omega); subst e; rw [oilsF, fst1_at (r := nI tt) h0 (by rw [oilsP, ← h1, if_pos c130_59d]) (by omega)]; rfl) rfl
          | succ d97 ih97 =>
            intro i hi dy w1 hB1 h1 h2
            refine g_iload X dX11_oils_97 rfl ?_
            refine g_iload_n X dX11_oils_99 rfl ?_
            refine g_icmp_ge X 118 dX11_oils_100 (by decide) (fun c100_60 => absurd c100_60 (fge (a := i) (b := v) (by omega) (by omega) (by omega))) (fun c100_60 => ?_)
            refine g_aload_n X dX11_oils_103 rfl ?_
            refine g_aload_n X dX11_oils_104 rfl ?_
            refine g_get X uwX11 0 rfl rfl 16 (by decide) kl_X11_37 rfl rfl gwX11 dX11_oils_105 ?_
            refine g_iconst X (1) dX11_oils_108 (by decide) ?_
            refine g_callVv X (c_X11_passOn V mm mtx mnu mrc mrw mrl mki mwa mle mno mtr mse mba mim msi mfo mor mbo mma mbm mso le_ po_ fa_ rcl_ rle_ n m ba_ km_ si_ fm_ k wb ld te pu dy w1 (goilF c tt g) mtr 1 (by omega) (by omega) (by omega) ht hB1) mo_X11_passOn kl_X11_172 [0, 1, 2, 3, 5] [1, 2, 3, 4, 0, 5] rfl (by decide +kernel) rfl rfl (fun _ => Nat.le_of_ble_eq_true rfl) 0 11 rfl rfl (As := [.ref mtr, .int 1]) (st := []) (cs' := (0, 0)) rfl rfl rfl rfl dX11_oils_109 (fun nw_61 hp_62 ws_64 hw_63 => ?_)
            obtain rfl : nw_61 = dayF k wb ld te pu n m (goilF c tt g) 1 dy w1 := hp_62
            have hw_63x : ws_64 = [(mm, .inr (11, [.int le_, .ref mtx, .int po_, .ref mnu, .int fa_, .int rcl_, .int rle_, .ref mrc, .ref mrw, .ref mrl, .int (nI n), .ref mki, .ref mwa, .int (nI m), .ref mle, .ref mno, .ref mtr, .ref mse, .ref mba, .int ba_, .ref mim, .int km_, .int si_, .ref msi, .ref mfo, .int fm_, .ref mor, .ref mbo, .ref mma, .ref mbm, .ref mso])), (mki, .inl (V.2.2.1, 7, .inl k)), (mwa, .inl (V.2.2.1, 7, .inl wb)), (mle, .inl (V.2.2.1, 27, .inl (leF ld te pu))), (mno, .inl (V.2.2.1, 15, .inl (stF day w g))), (mtr, .inl (V.2.2.1, 15, .inl (stF (dy + 1) (dayF k wb ld te pu n m (goilF c tt g) 1 dy w1) (goilF c tt g))))] := hw_63.symm
            clear hw_63; subst hw_63x
            refine g_iinc X (v := nI (i + 1)) (L' := [some (.ref mm), some (.int (nI c)), some (.int (nI v)), some (.int x), some (.int (g c)), some (.int (nI tt)), some (.int (nI (i + 1)))]) dX11_oils_112 rfl (nI_addk (by decide)) (by decide) rfl rfl ?_
            refine g_goto X 97 dX11_oils_115 (by decide) ?_
            exact ih97 (i + 1) (by omega) (dy + 1) (dayF k wb ld te pu n m (goilF c tt g) 1 dy w1) Bd_day (by rw [daysF, it_s, ← daysF, ← h1, ← h2]) (by rw [h2, Int32.add_assoc, nI_1])
        exact loop97_52 v 0 (by omega) day w hB rfl (by rw [nI_0, Int32.add_zero])
  exact loop44_19 (auN gi + 1) 0 (by omega) tr rfl

set_option maxHeartbeats 4000000 in
set_option maxRecDepth 100000 in
theorem w_draughts_0 (V : gV) (mm : Nat) (mtx : Nat) (mnu : Nat) (mrc : Nat) (mrw : Nat) (mrl : Nat) (mki : Nat) (mwa : Nat) (mle : Nat) (mno : Nat) (mtr : Nat) (mse : Nat) (mba : Nat) (mim : Nat) (msi : Nat) (mfo : Nat) (mor : Nat) (mbo : Nat) (mma : Nat) (mbm : Nat) (mso : Nat) (le_ : Int32) (po_ : Int32) (fa_ : Int32) (rcl_ : Int32) (rle_ : Int32) (n : Nat) (m : Nat) (ba_ : Int32) (km_ : Int32) (si_ : Int32) (fm_ : Int32) (k : Nat → Int32) (wb : Nat → Int32) (ld : Nat → Nat) (te : Nat → Nat) (pu : Nat → Nat) (day : Int32) (w : Nat → Int32) (g : Nat → Int32) (tr : Nat → Int32) (c : Nat) (v : Nat) (x : Int32) (hn : n ≤ 7) (h1n : 1 ≤ n) (hm : m ≤ 9) (ht : ∀ i, i < m → te i < n ∧ pu i < n) (hB : Bd n w) (hc : c < n) (hv : v ≤ 6) (hx1 : ¬ x < 0) (hx2 : ¬ 10 < x) : Ki V yX11_draughts cX11_draughts 10 .int ({ frames := 3, cells := 0, slots := 0, locals := 71 }) [.ref mm, .int (nI c), .int (nI v), .int x, .int 0] [(mm, .inr (11, [.int le_, .ref mtx, .int po_, .ref mnu, .int fa_, .int rcl_, .int rle_, .ref mrc, .ref mrw, .ref mrl, .int (nI n), .ref mki, .ref mwa, .int (nI m), .ref mle, .ref mno, .ref mtr, .ref mse, .ref mba, .int ba_, .ref mim, .int km_, .int si_, .ref msi, .ref mfo, .int fm_, .ref mor, .ref mbo, .ref mma, .ref mbm, .ref mso])), (mki, .inl (V.2.2.1, 7, .inl k)), (mwa, .inl (V.2.2.1, 7, .inl wb)), (mle, .inl (V.2.2.1, 27, .inl (leF ld te pu))), (mno, .inl (V.2.2.1, 15, .inl (stF day w g))), (mtr, .inl (V.2.2.1, 15, .inl tr))] (fun (r : Int32) (u : (Nat → Int32)) => r = (lowF (aboF k wb ld te pu n m g x day w c v (2 ^ v)) v).1) (fun u => [(mm, .inr (11, [.int le_, .ref mtx, .int po_, .ref mnu, .int fa_, .int rcl_, .int rle_, .ref mrc, .ref mrw, .ref mrl, .int (nI n), .ref mki, .ref mwa, .int (nI m), .ref mle, .ref mno, .ref mtr, .ref mse, .ref mba, .int ba_, .ref mim, .int km_, .int si_, .ref msi, .ref mfo, .int fm_, .ref mor, .ref mbo, .ref mma, .ref mbm, .ref mso])), (mki, .inl (V.2.2.1, 7, .inl k)), (mwa, .inl (V.2.2.1, 7, .inl wb)), (mle, .inl (V.2.2.1, 27, .inl (leF ld te pu))), (mno, .inl (V.2.2.1, 15, .inl (stF day w g))), (mtr, .inl (V.2.2.1, 15, .inl u))]) := by
  refine Ki.of [some (.ref mm), some (.int (nI c)), some (.int (nI v)), some (.int x), some (.int 0), none, none, none, none, none] (by decide) (Nat.le_of_ble_eq_true rfl) rfl rfl ?_
  intro Z X E
  have X : gX V Z RX11 cX11_draughts 10 ({ frames := 3, cells := 0, slots := 0, locals := 71 }) := X
  have h64 := pow64 v (by omega)
  have h10 := ten_le v hv
  refine g_aload_n X dX11_draughts_0 rfl ?_
  refine g_iload_n X dX11_draughts_1 rfl ?_
  refine g_callVi X (c_X11_isClock V mm mtx mnu mrc mrw mrl mki mwa mle mno mtr mse mba mim msi mfo mor mbo mma mbm mso le_ po_ fa_ rcl_ rle_ n (nI m) ba_ km_ si_ fm_ (nI c) (by omega) (by omega)) mo_X11_isClock kl_X11_134 [0] [1, 0, 0, 0, 0, 0] rfl (by decide +kernel) rfl rfl (fun _ => Nat.le_of_ble_eq_true rfl) 0 11 rfl rfl (As := [.int (nI c)]) (st := []) (cs' := (0, 0)) rfl rfl rfl rfl dX11_draughts_2 (fun r_5 u_1 hp_2 ws_4 hw_3 => ?_)
  obtain rfl : r_5 = (if okC n (nI c) then 1 else 0) := hp_2
  have hw_3x : ws_4 = [(mm, .inr (11, [.int le_, .ref mtx, .int po_, .ref mnu, .int fa_, .int rcl_, .int rle_, .ref mrc, .ref mrw, .ref mrl, .int (nI n), .ref mki, .ref mwa, .int (nI m), .ref mle, .ref mno, .ref mtr, .ref mse, .ref mba, .int ba_, .ref mim, .int km_, .int si_, .ref msi, .ref mfo, .int fm_, .ref mor, .ref mbo, .ref mma, .ref mbm, .ref mso])), (mki, .inl (V.2.2.1, 7, .inl k)), (mwa, .inl (V.2.2.1, 7, .inl wb)), (mle, .inl (V.2.2.1, 27, .inl (leF ld te pu))), (mno, .inl (V.2.2.1, 15, .inl (stF day w g))), (mtr, .inl (V.2.2.1, 15, .inl tr))] := hw_3.symm
  clear hw_3; subst hw_3x
  refine g_if_eq X 38 dX11_draughts_5 (by decide) (fun c5_6 => absurd c5_6 (by rw [if_pos (okC_nI hc (by omega))]; decide)) (fun c5_6 => ?_)
  refine g_iload_n X dX11_draughts_8 rfl ?_
  refine g_iconst X (0) dX11_draughts_9 (by decide) ?_
  refine g_bipush X (6) dX11_draughts_10 (by decide) ?_
  refine g_callSi X (c_X11_in V (nI v) 0 6) mo_X11_in kl_X11_94 [] [0, 0, 0, 0, 0, 0] rfl (by decide +kernel) rfl rfl (fun _ => Nat.le_of_ble_eq_true rfl) (As := [.int (nI v), .int 0, .int 6]) (st := []) (cs' := (0, 0)) rfl rfl rfl dX11_draughts_12 (fun r_11 u_7 hp_8 ws_10 hw_9 => ?_)
  obtain rfl : r_11 = inF (nI v) 0 6 := hp_8
  have hw_9x : ws_10 = [(mm, .inr (11, [.int le_, .ref mtx, .int po_, .ref mnu, .int fa_, .int rcl_, .int rle_, .ref mrc, .ref mrw, .ref mrl, .int (nI n), .ref mki, .ref mwa, .int (nI m), .ref mle, .ref mno, .ref mtr, .ref mse, .ref mba, .int ba_, .ref mim, .int km_, .int si_, .ref msi, .ref mfo, .int fm_, .ref mor, .ref mbo, .ref mma, .ref mbm, .ref mso])), (mki, .inl (V.2.2.1, 7, .inl k)), (mwa, .inl (V.2.2.1, 7, .inl wb)), (mle, .inl (V.2.2.1, 27, .inl (leF ld te pu))), (mno, .inl (V.2.2.1, 15, .inl (stF day w g))), (mtr, .inl (V.2.2.1, 15, .inl tr))] := hw_9.symm
  clear hw_9; subst hw_9x
  refine g_if_eq X 38 dX11_draughts_15 (by decide) (fun c15_12 => absurd c15_12 (inF_ne (v := v) (lo := 0) (hi := 6) (by omega) (by omega))) (fun c15_12 => ?_)
  refine g_iload_n X dX11_draughts_18 rfl ?_
  refine g_iconst X (0) dX11_draughts_19 (by decide) ?_
  refine g_bipush X (10) dX11_draughts_20 (by decide) ?_
  refine g_callSi X (c_X11_in V x 0 10) mo_X11_in kl_X11_94 [] [0, 0, 0, 0, 0, 0] rfl (by decide +kernel) rfl rfl (fun _ => Nat.le_of_ble_eq_true rfl) (As := [.int x, .int 0, .int 10]) (st := []) (cs' := (0, 0)) rfl rfl rfl dX11_draughts_22 (fun r_17 u_13 hp_14 ws_16 hw_15 => ?_)
  obtain rfl : r_17 = inF x 0 10 := hp_14
  have hw_15x : ws_16 = [(mm, .inr (11, [.int le_, .ref mtx, .int po_, .ref mnu, .int fa_, .int rcl_, .int rle_, .ref mrc, .ref mrw, .ref mrl, .int (nI n), .ref mki, .ref mwa, .int (nI m), .ref mle, .ref mno, .ref mtr, .ref mse, .ref mba, .int ba_, .ref mim, .int km_, .int si_, .ref msi, .ref mfo, .int fm_, .ref mor, .ref mbo, .ref mma, .ref mbm, .ref mso])), (mki, .inl (V.2.2.1, 7, .inl k)), (mwa, .inl (V.2.2.1, 7, .inl wb)), (mle, .inl (V.2.2.1, 27, .inl (leF ld te pu))), (mno, .inl (V.2.2.1, 15, .inl (stF day w g))), (mtr, .inl (V.2.2.1, 15, .inl tr))] := hw_15.symm
  clear hw_15; subst hw_15x
  refine g_if_eq X 38 dX11_draughts_25 (by decide) (fun c25_18 => absurd c25_18 (by rw [inF_1 hx1 hx2]; decide)) (fun c25_18 => ?_)
  refine g_iload X dX11_draughts_28 rfl ?_
  refine g_iconst X (0) dX11_draughts_30 (by decide) ?_
  refine g_iconst X (1) dX11_draughts_31 (by decide) ?_
  refine g_callSi X (c_X11_in V 0 0 1) mo_X11_in kl_X11_94 [] [0, 0, 0, 0, 0, 0] rfl (by decide +kernel) rfl rfl (fun _ => Nat.le_of_ble_eq_true rfl) (As := [.int 0, .int 0, .int 1]) (st := []) (cs' := (0, 0)) rfl rfl rfl dX11_draughts_32 (fun r_23 u_19 hp_20 ws_22 hw_21 => ?_)
  obtain rfl : r_23 = inF 0 0 1 := hp_20
  have hw_21x : ws_22 = [(mm, .inr (11, [.int le_, .ref mtx, .int po_, .ref mnu, .int fa_, .int rcl_, .int rle_, .ref mrc, .ref mrw, .ref mrl, .int (nI n), .ref mki, .ref mwa, .int (nI m), .ref mle, .ref mno, .ref mtr, .ref mse, .ref mba, .int ba_, .ref mim, .int km_, .int si_, .ref msi, .ref mfo, .int fm_, .ref mor, .ref mbo, .ref mma, .ref mbm, .ref mso])), (mki, .inl (V.2.2.1, 7, .inl k)), (mwa, .inl (V.2.2.1, 7, .inl wb)), (mle, .inl (V.2.2.1, 27, .inl (leF ld te pu))), (mno, .inl (V.2.2.1, 15, .inl (stF day w g))), (mtr, .inl (V.2.2.1, 15, .inl tr))] := hw_21.symm
  clear hw_21; subst hw_21x
  refine g_if_ne X 40 dX11_draughts_35 (by decide) (fun c35_24 => ?_) (fun c35_24 => absurd c35_24 (by decide))
  refine g_iconst X (0) dX11_draughts_40 (by decide) ?_
  refine g_istore X (L' := [some (.ref mm), some (.int (nI c)), some (.int (nI v)), some (.int x), some (.int 0), some (.int 0), none, none, none, none]) dX11_draughts_41 (by decide) rfl rfl ?_
  refine g_iconst X (1) dX11_draughts_43 (by decide) ?_
  refine g_istore X (L' := [some (.ref mm), some (.int (nI c)), some (.int (nI v)), some (.int x), some (.int 0), some (.int 0), some (.int 1), none, none, none]) dX11_draughts_44 (by decide) rfl rfl ?_
  refine g_iconst X (0) dX11_draughts_46 (by decide) ?_
  refine g_istore X (L' := [some (.ref mm), some (.int (nI c)), some (.int (nI v)), some (.int x), some (.int 0), some (.int 0), some (.int 1), some (.int 0), none, none]) dX11_draughts_47 (by decide) rfl rfl ?_
  have loop49_25 : ∀ (d49 i : Nat), i + d49 = v → ∀ (lo : Int32) (hlo : lo = tenF i), G V Z 10 (0, 0) [(mm, .inr (11, [.int le_, .ref mtx, .int po_, .ref mnu, .int fa_, .int rcl_, .int rle_, .ref mrc, .ref mrw, .ref mrl, .int (nI n), .ref mki, .ref mwa, .int (nI m), .ref mle, .ref mno, .ref mtr, .ref mse, .ref mba, .int ba_, .ref mim, .int km_, .int si_, .ref msi, .ref mfo, .int fm_, .ref mor, .ref mbo, .ref mma, .ref mbm, .ref mso])), (mki, .inl (V.2.2.1, 7, .inl k)), (mwa, .inl (V.2.2.1, 7, .inl wb)), (mle, .inl (V.2.2.1, 27, .inl (leF ld te pu))), (mno, .inl (V.2.2.1, 15, .inl (stF day w g))), (mtr, .inl (V.2.2.1, 15, .inl tr))] 49 [some (.ref mm), some (.int (nI c)), some (.int (nI v)), some (.int x), some (.int 0), some (.int 0), some (.int lo), some (.int (nI i)), none, none] [] := by
    intro d49
    induction d49 with
    | zero =>
      intro i hi lo hlo
      refine g_iload X dX11_draughts_49 rfl ?_
      refine g_iload_n X dX11_draughts_51 rfl ?_
      refine g_icmp_ge X 68 dX11_draughts_52 (by decide) (fun c52_26 => ?_) (fun c52_26 => absurd (tge (a := i) (b := v) (by omega) (by omega) (by omega)) c52_26)
      obtain rfl : lo = nI (10 ^ v) := (by have e : i = v := (by omega); subst e; rw [hlo]; exact tenF_eq i hv)
      refine g_iconst X (0) dX11_draughts_68 (by decide) ?_
      refine g_istore X (L' := [some (.ref mm), some (.int (nI c)), some (.int (nI v)), some (.int x), some (.int 0), some (.int 0), some (.int (nI (10 ^ v))), some (.int 0), none, none]) dX11_draughts_69 (by decide) rfl rfl ?_
      have loop71_27 : ∀ (d71 dd : Nat), dd + d71 = 2 ^ v → ∀ (up : Int32) (tr1 : Nat → Int32) (h5 : up = aboF k wb ld te pu n m g x day w c v dd), G V Z 10 (0, 0) [(mm, .inr (11, [.int le_, .ref mtx, .int po_, .ref mnu, .int fa_, .int rcl_, .int rle_, .ref mrc, .ref mrw, .ref mrl, .int (nI n), .ref mki, .ref mwa, .int (nI m), .ref mle, .ref mno, .ref mtr, .ref mse, .ref mba, .int ba_, .ref mim, .int km_, .int si_, .ref msi, .ref mfo, .int fm_, .ref mor, .ref mbo, .ref mma, .ref mbm, .ref mso])), (mki, .inl (V.2.2.1, 7, .inl k)), (mwa, .inl (V.2.2.1, 7, .inl wb)), (mle, .inl (V.2.2.1, 27, .inl (leF ld te pu))), (mno, .inl (V.2.2.1, 15, .inl (stF day w g))), (mtr, .inl (V.2.2.1, 15, .inl tr1))] 71 [some (.ref mm), some (.int (nI c)), some (.int (nI v)), some (.int x), some (.int 0), some (.int up), some (.int (nI (10 ^ v))), some (.int (nI dd)), none, none] [] := by
        intro d71
        induction d71 with
        | zero =>
          intro dd hdd up tr1 h5
          refine g_iload X dX11_draughts_71 rfl ?_
          refine g_iconst X (1) dX11_draughts_73 (by decide) ?_
          refine g_iload_n X dX11_draughts_74 rfl ?_
          refine g_ishl X dX11_draughts_75 ?_
          refine g_toe (x' := nI (2 ^ v)) (shl2 v (by omega)) ?_
          refine g_icmp_ge X 184 dX11_draughts_76 (by decide) (fun c76_28 => ?_) (fun c76_28 => absurd (tge (a := dd) (b := 2 ^ v) (by omega) (by omega) (by omega)) c76_28)
          obtain ⟨u, hu1, hu2⟩ := abo_lt (k := k) (wb := wb) (ld := ld) (te := te) (pu := pu) (n := n) (m := m) (g := g) (day := day) (w := w) (c := c) hx1 hx2 hv; obtain rfl : up = nI u := (by have e : dd = 2 ^ v := (by omega); subst e; rw [h5]; exact hu1)
          refine g_iload X dX11_draughts_184 rfl ?_
          refine g_istore X (L' := [some (.ref mm), some (.int (nI c)), some (.int (nI v)), some (.int x), some (.int 0), some (.int (nI u)), some (.int (nI (10 ^ v))), some (.int (nI u)), none, none]) dX11_draughts_186 (by decide) rfl rfl ?_
          refine g_iload X dX11_draughts_188 rfl ?_
          refine g_istore X (L' := [some (.ref mm), some (.int (nI c)), some (.int (nI v)), some (.int x), some (.int 0), some (.int (nI u)), some (.int (nI (10 ^ v))), some (.int (nI u)), some (.int (nI (10 ^ v))), none]) dX11_draughts_190 (by decide) rfl rfl ?_
          have loop192_29 : ∀ (d192 : Nat) (rs : Nat) (lo2 : Nat) (hrs : rs ≤ 64000000) (hlo2 : lo2 ≤ 64000000) (hgc2 : Nat.gcd rs lo2 = Nat.gcd u (10 ^ v)), lo2 < d192 → G V Z 10 (0, 0) [(mm, .inr (11, [.int le_, .ref mtx, .int po_, .ref mnu, .int fa_, .int rcl_, .int rle_, .ref mrc, .ref mrw, .ref mrl, .int (nI n), .ref mki, .ref mwa, .int (nI m), .ref mle, .ref mno, .ref mtr, .ref mse, .ref mba, .int ba_, .ref mim, .int km_, .int si_, .ref msi, .ref mfo, .int fm_, .ref mor, .ref mbo, .ref mma, .ref mbm, .ref mso])), (mki, .inl (V.2.2.1, 7, .inl k)), (mwa, .inl (V.2.2.1, 7, .inl wb)), (mle, .inl (V.2.2.1, 27, .inl (leF ld te pu))), (mno, .inl (V.2.2.1, 15, .inl (stF day w g))), (mtr, .inl (V.2.2.1, 15, .inl tr1))] 192 [some (.ref mm), some (.int (nI c)), some (.int (nI v)), some (.int x), some (.int 0), some (.int (nI u)), some (.int (nI (10 ^ v))), some (.int (nI rs)), some (.int (nI lo2)), none] [] := by
            intro d192
            induction d192 with
            | zero => intro rs lo2 hrs hlo2 hgc2 hmu; exact absurd hmu (Nat.not_lt_zero _)
            | succ d192 ih192 =>
              intro rs lo2 hrs hlo2 hgc2 hmu
              refine g_iload X dX11_draughts_192 rfl ?_
              refine g_if_le X 215 dX11_draughts_194 (by decide) (fun c194_30 => ?_) (fun c194_30 => ?_)
              · have c194_30n := ile' (a := lo2) (b := 0) c194_30 (by omega) (by omega)
                have hy0 : lo2 = 0 := (by omega)
                have hgg : Nat.gcd u (10 ^ v) = rs := (by rw [← hgc2, hy0, Nat.gcd_zero_right])
                have hr0 : rs ≠ 0 := (by rw [← hgg]; exact Nat.pos_iff_ne_zero.mp (Nat.gcd_pos_of_pos_right _ (by omega)))
                refine g_iload X dX11_draughts_215 rfl ?_
                refine g_if_ne X 225 dX11_draughts_217 (by decide) (fun c217_31 => absurd (by decide) c217_31) (fun c217_31 => ?_)
                refine g_iload X dX11_draughts_220 rfl ?_
                refine g_goto X 227 dX11_draughts_222 (by decide) ?_
                refine g_iload X dX11_draughts_227 rfl ?_
                refine g_idiv X dX11_draughts_229 (fun z => hr0 ((nI_z (by omega)).mp z)) ?_
                refine g_toe (x' := nI (u / rs)) (nI_div' rfl rfl (by omega) (by omega) (by omega)) ?_
                exact g_iret X E dX11_draughts_230 tr1 (nI (u / rs)) (by rw [hu1, low_eq hv (by omega), hgg]) rfl
              · have c194_30n := inle' (a := lo2) (b := 0) c194_30 (by omega) (by omega)
                have hml := Nat.mod_lt rs (show 0 < lo2 by omega)
                refine g_iload X dX11_draughts_197 rfl ?_
                refine g_iload X dX11_draughts_199 rfl ?_
                refine g_rem X dX11_draughts_201 (fun z => absurd ((nI_z (by omega)).mp z) (by omega)) ?_
                refine g_toe (x' := nI (rs % lo2)) (nI_mod' rfl rfl (by omega) (by omega) (by omega)) ?_
                refine g_istore X (L' := [some (.ref mm), some (.int (nI c)), some (.int (nI v)), some (.int x), some (.int 0), some (.int (nI u)), some (.int (nI (10 ^ v))), some (.int (nI rs)), some (.int (nI lo2)), some (.int (nI (rs % lo2)))]) dX11_draughts_202 (by decide) rfl rfl ?_
                refine g_iload X dX11_draughts_204 rfl ?_
                refine g_istore X (L' := [some (.ref mm), some (.int (nI c)), some (.int (nI v)), some (.int x), some (.int 0), some (.int (nI u)), some (.int (nI (10 ^ v))), some (.int (nI lo2)), some (.int (nI lo2)), some (.int (nI (rs % lo2)))]) dX11_draughts_206 (by decide) rfl rfl ?_
                refine g_iload X dX11_draughts_208 rfl ?_
                refine g_istore X (L' := [some (.ref mm), some (.int (nI c)), some (.int (nI v)), some (.int x), some (.int 0), some (.int (nI u)), some (.int (nI (10 ^ v))), some (.int (nI lo2)), some (.int (nI (rs % lo2))), some (.int (nI (rs % lo2)))]) dX11_draughts_210 (by decide) rfl rfl ?_
                refine g_goto X 192 dX11_draughts_212 (by decide) ?_
                refine g_sub (L' := [some (.ref mm), some (.int (nI c)), some (.int (nI v)), some (.int x), some (.int 0), some (.int (nI u)), some (.int (nI (10 ^ v))), some (.int (nI lo2)), some (.int (nI (rs % lo2))), none]) ⟨rfl, ⟨rfl, ⟨rfl, ⟨rfl, ⟨rfl, ⟨rfl, ⟨rfl, ⟨rfl, ⟨rfl, trivial⟩⟩⟩⟩⟩⟩⟩⟩⟩ ?_
                exact ih192 lo2 (rs % lo2) hlo2 (by omega) (gcd_st hgc2) (by omega)
          exact loop192_29 _ u (10 ^ v) hu2 (by omega) rfl (Nat.lt_succ_self _)
        | succ d71 ih71 =>
          intro dd hdd up tr1 h5
          refine g_iload X dX11_draughts_71 rfl ?_
          refine g_iconst X (1) dX11_draughts_73 (by decide) ?_
          refine g_iload_n X dX11_draughts_74 rfl ?_
          refine g_ishl X dX11_draughts_75 ?_
          refine g_toe (x' := nI (2 ^ v)) (shl2 v (by omega)) ?_
          refine g_icmp_ge X 184 dX11_draughts_76 (by decide) (fun c76_32 => absurd c76_32 (fge (a := dd) (b := 2 ^ v) (by omega) (by omega) (by omega))) (fun c76_32 => ?_)
          refine g_aload_n X dX11_draughts_79 rfl ?_
          refine g_get X uwX11 0 rfl rfl 15 (by decide) kl_X11_34 rfl rfl gwX11 dX11_draughts_80 ?_
          refine g_iconst X (0) dX11_draughts_83 (by decide) ?_
          refine g_aload_n X dX11_draughts_84 rfl ?_
          refine g_get X uwX11 0 rfl rfl 16 (by decide) kl_X11_37 rfl rfl gwX11 dX11_draughts_85 ?_
          refine g_iconst X (0) dX11_draughts_88 (by decide) ?_
          refine g_callSv X (c_X11_copy V mno 15 (stF day w g) mtr 15 tr1 0 0 (by omega) (by omega) (by omega) (by omega)) mo_X11_copy kl_X11_165 [4, 5] [0, 0, 0, 0, 1, 2] rfl (by decide +kernel) rfl rfl (fun _ => Nat.le_of_ble_eq_true rfl) (As := [.ref mno, .int 0, .ref mtr, .int 0]) (st := []) (cs' := (0, 0)) rfl rfl rfl dX11_draughts_89 (fun u_33 hp_34 ws_36 hw_35 => ?_)
          have hw_35x : ws_36 = [(mm, .inr (11, [.int le_, .ref mtx, .int po_, .ref mnu, .int fa_, .int rcl_, .int rle_, .ref mrc, .ref mrw, .ref mrl, .int (nI n), .ref mki, .ref mwa, .int (nI m), .ref mle, .ref mno, .ref mtr, .ref mse, .ref mba, .int ba_, .ref mim, .int km_, .int si_, .ref msi, .ref mfo, .int fm_, .ref mor, .ref mbo, .ref mma, .ref mbm, .ref mso])), (mki, .inl (V.2.2.1, 7, .inl k)), (mwa, .inl (V.2.2.1, 7, .inl wb)), (mle, .inl (V.2.2.1, 27, .inl (leF ld te pu))), (mno, .inl (V.2.2.1, 15, .inl (stF day w g))), (mtr, .inl (V.2.2.1, 15, .inl (cpM 0 0 (stF day w g) tr1)))] := hw_35.symm
          clear hw_35; subst hw_35x
          refine g_arr 5 (stF day w g) rfl cpM_0 (ws' := [(mm, .inr (11, [.int le_, .ref mtx, .int po_, .ref mnu, .int fa_, .int rcl_, .int rle_, .ref mrc, .ref mrw, .ref mrl, .int (nI n), .ref mki, .ref mwa, .int (nI m), .ref mle, .ref mno, .ref mtr, .ref mse, .ref mba, .int ba_, .ref mim, .int km_, .int si_, .ref msi, .ref mfo, .int fm_, .ref mor, .ref mbo, .ref mma, .ref mbm, .ref mso])), (mki, .inl (V.2.2.1, 7, .inl k)), (mwa, .inl (V.2.2.1, 7, .inl wb)), (mle, .inl (V.2.2.1, 27, .inl (leF ld te pu))), (mno, .inl (V.2.2.1, 15, .inl (stF day w g))), (mtr, .inl (V.2.2.1, 15, .inl (stF day w g)))]) rfl ?_
          refine g_iconst X (1) dX11_draughts_92 (by decide) ?_
          refine g_istore X (L' := [some (.ref mm), some (.int (nI c)), some (.int (nI v)), some (.int x), some (.int 0), some (.int up), some (.int (nI (10 ^ v))), some (.int (nI dd)), some (.int 1), none]) dX11_draughts_93 (by decide) rfl rfl ?_
          refine g_iconst X (0) dX11_draughts_95 (by decide) ?_
          refine g_istore X (L' := [some (.ref mm), some (.int (nI c)), some (.int (nI v)), some (.int x), some (.int 0), some (.int up), some (.int (nI (10 ^ v))), some (.int (nI dd)), some (.int 1), some (.int 0)]) dX11_draughts_96 (by decide) rfl rfl ?_
          have loop98_38 : ∀ (d98 i2 : Nat), i2 + d98 = v → ∀ (pr : Int32) (dy : Int32) (w1 : Nat → Int32) (hB1 : Bd n w1) (h6 : (pr, w1) = draF k wb ld te pu n m g x day w i2 dd) (h7 : dy = day + nI i2), G V Z 10 (0, 0) [(mm, .inr (11, [.int le_, .ref mtx, .int po_, .ref mnu, .int fa_, .int rcl_, .int rle_, .ref mrc, .ref mrw, .ref mrl, .int (nI n), .ref mki, .ref mwa, .int (nI m), .ref mle, .ref mno, .ref mtr, .ref mse, .ref mba, .int ba_, .ref mim, .int km_, .int si_, .ref msi, .ref mfo, .int fm_, .ref mor, .ref mbo, .ref mma, .ref mbm, .ref mso])), (mki, .inl (V.2.2.1, 7, .inl k)), (mwa, .inl (V.2.2.1, 7, .inl wb)), (mle, .inl (V.2.2.1, 27, .inl (leF ld te pu))), (mno, .inl (V.2.2.1, 15, .inl (stF day w g))), (mtr, .inl (V.2.2.1, 15, .inl (stF dy w1 g)))] 98 [some (.ref mm), some (.int (nI c)), some (.int (nI v)), some (.int x), some (.int 0), some (.int up), some (.int (nI (10 ^ v))), some (.int (nI dd)), some (.int pr), some (.int (nI i2))] [] := by
            intro d98
            induction d98 with
            | zero =>
              intro i2 hi2 pr dy w1 hB1 h6 h7
              refine g_iload X dX11_draughts_98 rfl ?_
              refine g_iload_n X dX11_draughts_100 rfl ?_
              refine g_icmp_ge X 156 dX11_draughts_101 (by decide) (fun c101_39 => ?_) (fun c101_39 => absurd (tge (a := i2) (b := v) (by omega) (by omega) (by omega)) c101_39)
              refine g_iload X dX11_draughts_156 rfl ?_
              refine g_aload_n X dX11_draughts_158 rfl ?_
              refine g_get X uwX11 0 rfl rfl 16 (by decide) kl_X11_37 rfl rfl gwX11 dX11_draughts_159 ?_
              refine g_iconst X (1) dX11_draughts_162 (by decide) ?_
              refine g_iload_n X dX11_draughts_163 rfl ?_
              refine g_iadd X dX11_draughts_164 ?_
              refine g_toe (x' := nI (1 + c)) (nI_add' rfl rfl) ?_
              refine g_iald' X 5 rfl (i := (1 + c)) rfl (by omega) (by omega) dX11_draughts_165 ?_
              refine g_toe (x' := w1 c) (stF_w _ _ _ c (by omega)) ?_
              refine g_if_ne X 174 dX11_draughts_166 (by decide) (fun c166_40 => ?_) (fun c166_40 => ?_)
              · refine g_iconst X (0) dX11_draughts_174 (by decide) ?_
                refine g_iadd X dX11_draughts_175 ?_
                refine g_istore X (L' := [some (.ref mm), some (.int (nI c)), some (.int (nI v)), some (.int x), some (.int 0), some (.int (up + 0)), some (.int (nI (10 ^ v))), some (.int (nI dd)), some (.int pr), some (.int (nI i2))]) dX11_draughts_176 (by decide) rfl rfl ?_
                refine g_iinc X (v := nI (dd + 1)) (L' := [some (.ref mm), some (.int (nI c)), some (.int (nI v)), some (.int x), some (.int 0), some (.int (up + 0)), some (.int (nI (10 ^ v))), some (.int (nI (dd + 1))), some (.int pr), some (.int (nI i2))]) dX11_draughts_178 rfl (nI_addk (by decide)) (by decide) rfl rfl ?_
                refine g_goto X 71 dX11_draughts_181 (by decide) ?_
                refine g_sub (L' := [some (.ref mm), some (.int (nI c)), some (.int (nI v)), some (.int x), some (.int 0), some (.int (up + 0)), some (.int (nI (10 ^ v))), some (.int (nI (dd + 1))), none, none]) ⟨rfl, ⟨rfl, ⟨rfl, ⟨rfl, ⟨rfl, ⟨rfl, ⟨rfl, ⟨rfl, trivial⟩⟩⟩⟩⟩⟩⟩⟩ ?_
                exact ih71 (dd + 1) (by omega) (up + 0) (stF dy w1 g) (by have e : i2 = v := (by omega); subst e; rw [abo_s h5 h6]; simp [c166_40])
              · refine g_iload X dX11_draughts_169 rfl ?_
                refine g_goto X 175 dX11_draughts_171 (by decide) ?_
                refine g_iadd X dX11_draughts_175 ?_
                refine g_istore X (L' := [some (.ref mm), some (.int (nI c)), some (.int (nI v)), some (.int x), some (.int 0), some (.int (up + pr)), some (.int (nI (10 ^ v))), some (.int (nI dd)), some (.int pr), some (.int (nI i2))]) dX11_draughts_176 (by decide) rfl rfl ?_
                refine g_iinc X (v := nI (dd + 1)) (L' := [some (.ref mm), some (.int (nI c)), some (.int (nI v)), some (.int x), some (.int 0), some (.int (up + pr)), some (.int (nI (10 ^ v))), some (.int (nI (dd + 1))), some (.int pr), some (.int (nI i2))]) dX11_draughts_178 rfl (nI_addk (by decide)) (by decide) rfl rfl ?_
                refine g_goto X 71 dX11_draughts_181 (by decide) ?_
                refine g_sub (L' := [some (.ref mm), some (.int (nI c)), some (.int (nI v)), some (.int x), some (.int 0), some (.int (up + pr)), some (.int (nI (10 ^ v))), some (.int (nI (dd + 1))), none, none]) ⟨rfl, ⟨rfl, ⟨rfl, ⟨rfl, ⟨rfl, ⟨rfl, ⟨rfl, ⟨rfl, trivial⟩⟩⟩⟩⟩⟩⟩⟩ ?_
                exact ih71 (dd + 1) (by omega) (up + pr) (stF dy w1 g) (by have e : i2 = v := (by omega); subst e; rw [abo_s h5 h6]; simp [c166_40])
            | succ d98 ih98 =>
              intro i2 hi2 pr dy w1 hB1 h6 h7
              refine g_iload X dX11_draughts_98 rfl ?_
              refine g_iload_n X dX11_draughts_100 rfl ?_
              refine g_icmp_ge X 156 dX11_draughts_101 (by decide) (fun c101_41 => absurd c101_41 (fge (a := i2) (b := v) (by omega) (by omega) (by omega))) (fun c101_41 => ?_)
              refine g_iload X dX11_draughts_104 rfl ?_
              refine g_iload X dX11_draughts_106 rfl ?_
              refine g_iload X dX11_draughts_108 rfl ?_
              refine g_callSi X (c_X11_has V (nI dd) i2) mo_X11_has kl_X11_158 [] [0, 0, 0, 0, 0, 0] rfl (by decide +kernel) rfl rfl (fun _ => Nat.le_of_ble_eq_true rfl) (As := [.int (nI dd), .int (nI i2)]) (st := [.int pr]) (cs' := (0, 0)) rfl rfl rfl dX11_draughts_110 (fun r_46 u_42 hp_43 ws_45 hw_44 => ?_)
              obtain rfl : r_46 = hasF (nI dd) i2 := hp_43
              have hw_44x : ws_45 = [(mm, .inr (11, [.int le_, .ref mtx, .int po_, .ref mnu, .int fa_, .int rcl_, .int rle_, .ref mrc, .ref mrw, .ref mrl, .int (nI n), .ref mki, .ref mwa, .int (nI m), .ref mle, .ref mno, .ref mtr, .ref mse, .ref mba, .int ba_, .ref mim, .int km_, .int si_, .ref msi, .ref mfo, .int fm_, .ref mor, .ref mbo, .ref mma, .ref mbm, .ref mso])), (mki, .inl (V.2.2.1, 7, .inl k)), (mwa, .inl (V.2.2.1, 7, .inl wb)), (mle, .inl (V.2.2.1, 27, .inl (leF ld te pu))), (mno, .inl (V.2.2.1, 15, .inl (stF day w g))), (mtr, .inl (V.2.2.1, 15, .inl (stF dy w1 g)))] := hw_44.symm
              clear hw_44; subst hw_44x
              refine g_if_eq X 120 dX11_draughts_113 (by decide) (fun c113_47 => ?_) (fun c113_47 => ?_)
              · refine g_bipush X (10) dX11_draughts_120 (by decide) ?_
                refine g_iload_n X dX11_draughts_122 rfl ?_
                refine g_isub X dX11_draughts_123 ?_
                refine g_imul X dX11_draughts_124 ?_
                refine g_istore X (L' := [some (.ref mm), some (.int (nI c)), some (.int (nI v)), some (.int x), some (.int 0), some (.int up), some (.int (nI (10 ^ v))), some (.int (nI dd)), some (.int (pr * (10 - x))), some (.int (nI i2))]) dX11_draughts_125 (by decide) rfl rfl ?_
                refine g_aload_n X dX11_draughts_127 rfl ?_
                refine g_aload_n X dX11_draughts_128 rfl ?_
                refine g_get X uwX11 0 rfl rfl 16 (by decide) kl_X11_37 rfl rfl gwX11 dX11_draughts_129 ?_
                refine g_iload X dX11_draughts_132 rfl ?_
                refine g_iload X dX11_draughts_134 rfl ?_
                refine g_callSi X (c_X11_has V (nI dd) i2) mo_X11_has kl_X11_158 [] [0, 0, 0, 0, 0, 0] rfl (by decide +kernel) rfl rfl (fun _ => Nat.le_of_ble_eq_true rfl) (As := [.int (nI dd), .int (nI i2)]) (st := [.ref mtr, .ref mm]) (cs' := (0, 0)) rfl rfl rfl dX11_draughts_136 (fun r_52 u_48 hp_49 ws_51 hw_50 => ?_)
                obtain rfl : r_52 = hasF (nI dd) i2 := hp_49
                have hw_50x : ws_51 = [(mm, .inr (11, [.int le_, .ref mtx, .int po_, .ref mnu, .int fa_, .int rcl_, .int rle_, .ref mrc, .ref mrw, .ref mrl, .int (nI n), .ref mki, .ref mwa, .int (nI m), .ref mle, .ref mno, .ref mtr, .ref mse, .ref mba, .int ba_, .ref mim, .int km_, .int si_, .ref msi, .ref mfo, .int fm_, .ref mor, .ref mbo, .ref mma, .ref mbm, .ref mso])), (mki, .inl (V.2.2.1, 7, .inl k)), (mwa, .inl (V.2.2.1, 7, .inl wb)), (mle, .inl (V.2.2.1, 27, .inl (leF ld te pu))), (mno, .inl (V.2.2.1, 15, .inl (stF day w g))), (mtr, .inl (V.2.2.1, 15, .inl (stF dy w1 g)))] := hw_50.symm
                clear hw_50; subst hw_50x
                refine g_if_ne X 146 dX11_draughts_139 (by decide) (fun c139_53 => absurd c113_47 c139_53) (fun c139_53 => ?_)
                refine g_iconst X (1) dX11_draughts_142 (by decide) ?_
                refine g_goto X 147 dX11_draughts_143 (by decide) ?_
                refine g_callVv X (c_X11_passOn V mm mtx mnu mrc mrw mrl mki mwa mle mno mtr mse mba mim msi mfo mor mbo mma mbm mso le_ po_ fa_ rcl_ rle_ n m ba_ km_ si_ fm_ k wb ld te pu dy w1 g mtr 1 (by omega) (by omega) (by omega) ht hB1) mo_X11_passOn kl_X11_172 [0, 1, 2, 3, 5] [1, 2, 3, 4, 0, 5] rfl (by decide +kernel) rfl rfl (fun _ => Nat.le_of_ble_eq_true rfl) 0 11 rfl rfl (As := [.ref mtr, .int 1]) (st := []) (cs' := (0, 0)) rfl rfl rfl rfl dX11_draughts_147 (fun nw_54 hp_55 ws_57 hw_56 => ?_)
                obtain rfl : nw_54 = dayF k wb ld te pu n m g 1 dy w1 := hp_55
                have hw_56x : ws_57 = [(mm, .inr (11, [.int le_, .ref mtx, .int po_, .ref mnu, .int fa_, .int rcl_, .int rle_, .ref mrc, .ref mrw, .ref mrl, .int (nI n), .ref mki, .ref mwa, .int (nI m), .ref mle, .ref mno, .ref mtr, .ref mse, .ref mba, .int ba_, .ref mim, .int km_, .int si_, .ref msi, .ref mfo, .int fm_, .ref mor, .ref mbo, .ref mma, .ref mbm, .ref mso])), (mki, .inl (V.2.2.1, 7, .inl k)), (mwa, .inl (V.2.2.1, 7, .inl wb)), (mle, .inl (V.2.2.1, 27, .inl (leF ld te pu))), (mno, .inl (V.2.2.1, 15, .inl (stF day w g))), (mtr, .inl (V.2.2.1, 15, .inl (stF (dy + 1) (dayF k wb ld te pu n m g 1 dy w1) g)))] := hw_56.symm
                clear hw_56; subst hw_56x
                refine g_iinc X (v := nI (i2 + 1)) (L' := [some (.ref mm), some (.int (nI c)), some (.int (nI v)), some (.int x), some (.int 0), some (.int up), some (.int (nI (10 ^ v))), some (.int (nI dd)), some (.int (pr * (10 - x))), some (.int (nI (i2 + 1)))]) dX11_draughts_150 rfl (nI_addk (by decide)) (by decide) rfl rfl ?_
                refine g_goto X 98 dX11_draughts_153 (by decide) ?_
                exact ih98 (i2 + 1) (by omega) (pr * (10 - x)) (dy + 1) (dayF k wb ld te pu n m g 1 dy w1) Bd_day (by rw [dra_s h6, draS, ← h7]; simp [c113_47]) (by rw [h7, Int32.add_assoc, nI_1])
              · refine g_iload_n X dX11_draughts_116 rfl ?_
                refine g_goto X 124 dX11_draughts_117 (by decide) ?_
                refine g_imul X dX11_draughts_124 ?_
                refine g_istore X (L' := [some (.ref mm), some (.int (nI c)), some (.int (nI v)), some (.int x), some (.int 0), some (.int up), some (.int (nI (10 ^ v))), some (.int (nI dd)), some (.int (pr * x)), some (.int (nI i2))]) dX11_draughts_125 (by decide) rfl rfl ?_
                refine g_aload_n X dX11_draughts_127 rfl ?_
                refine g_aload_n X dX11_draughts_128 rfl ?_
                refine g_get X uwX11 0 rfl rfl 16 (by decide) kl_X11_37 rfl rfl gwX11 dX11_draughts_129 ?_
                refine g_iload X dX11_draughts_132 rfl ?_
                refine g_iload X dX11_draughts_134 rfl ?_
                refine g_callSi X (c_X11_has V (nI dd) i2) mo_X11_has kl_X11_158 [] [0, 0, 0, 0, 0, 0] rfl (by decide +kernel) rfl rfl (fun _ => Nat.le_of_ble_eq_true rfl) (As := [.int (nI dd), .int (nI i2)]) (st := [.ref mtr, .ref mm]) (cs' := (0, 0)) rfl rfl rfl dX11_draughts_136 (fun r_63 u_59 hp_60 ws_62 hw_61 => ?_)
                obtain rfl : r_63 = hasF (nI dd) i2 := hp_60
                have hw_61x : ws_62 = [(mm, .inr (11, [.int le_, .ref mtx, .int po_, .ref mnu, .int fa_, .int rcl_, .int rle_, .ref mrc, .ref mrw, .ref mrl, .int (nI n), .ref mki, .ref mwa, .int (nI m), .ref mle, .ref mno, .ref mtr, .ref mse, .ref mba, .int ba_, .ref mim, .int km_, .int si_, .ref msi, .ref mfo, .int fm_, .ref mor, .ref mbo, .ref mma, .ref mbm, .ref mso])), (mki, .inl (V.2.2.1, 7, .inl k)), (mwa, .inl (V.2.2.1, 7, .inl wb)), (mle, .inl (V.2.2.1, 27, .inl (leF ld te pu))), (mno, .inl (V.2.2.1, 15, .inl (stF day w g))), (mtr, .inl (V.2.2.1, 15, .inl (stF dy w1 g)))] := hw_61.symm
                clear hw_61; subst hw_61x
                refine g_if_ne X 146 dX11_draughts_139 (by decide) (fun c139_64 => ?_) (fun c139_64 => absurd c139_64 c113_47)
                refine g_iconst X (0) dX11_draughts_146 (by decide) ?_
                refine g_callVv X (c_X11_passOn V mm mtx mnu mrc mrw mrl mki mwa mle mno mtr mse mba mim msi mfo mor mbo mma mbm mso le_ po_ fa_ rcl_ rle_ n m ba_ km_ si_ fm_ k wb ld te pu dy w1 g mtr 0 (by omega) (by omega) (by omega) ht hB1) mo_X11_passOn kl_X11_172 [0, 1, 2, 3, 5] [1, 2, 3, 4, 0, 5] rfl (by decide +kernel) rfl rfl (fun _ => Nat.le_of_ble_eq_true rfl) 0 11 rfl rfl (As := [.ref mtr, .int 0]) (st := []) (cs' := (0, 0)) rfl rfl rfl rfl dX11_draughts_147 (fun nw_65 hp_66 ws_68 hw_67 => ?_)
                obtain rfl : nw_65 = dayF k wb ld te pu n m g 0 dy w1 := hp_66
                have hw_67x : ws_68 = [(mm, .inr (11, [.int le_, .ref mtx, .int po_, .ref mnu, .int fa_, .int rcl_, .int rle_, .ref mrc, .ref mrw, .ref mrl, .int (nI n), .ref mki, .ref mwa, .int (nI m), .ref mle, .ref mno, .ref mtr, .ref mse, .ref mba, .int ba_, .ref mim, .int km_, .int si_, .ref msi, .ref mfo, .int fm_, .ref mor, .ref mbo, .ref mma, .ref mbm, .ref mso])), (mki, .inl (V.2.2.1, 7, .inl k)), (mwa, .inl (V.2.2.1, 7, .inl wb)), (mle, .inl (V.2.2.1, 27, .inl (leF ld te pu))), (mno, .inl (V.2.2.1, 15, .inl (stF day w g))), (mtr, .inl (V.2.2.1, 15, .inl (stF (dy + 1) (dayF k wb ld te pu n m g 0 dy w1) g)))] := hw_67.symm
                clear hw_67; subst hw_67x
                refine g_iinc X (v := nI (i2 + 1)) (L' := [some (.ref mm), some (.int (nI c)), some (.int (nI v)), some (.int x), some (.int 0), some (.int up), some (.int (nI (10 ^ v))), some (.int (nI dd)), some (.int (pr * x)), some (.int (nI (i2 + 1)))]) dX11_draughts_150 rfl (nI_addk (by decide)) (by decide) rfl rfl ?_
                refine g_goto X 98 dX11_draughts_153 (by decide) ?_
                exact ih98 (i2 + 1) (by omega) (pr * x) (dy + 1) (dayF k wb ld te pu n m g 0 dy w1) Bd_day (by rw [dra_s h6, draS, ← h7]; simp [c113_47]) (by rw [h7, Int32.add_assoc, nI_1])
          exact loop98_38 v 0 (by omega) 1 day w hB rfl (by rw [nI_0, Int32.add_zero])
      exact loop71_27 (2 ^ v) 0 (by omega) 0 tr rfl
    | succ d49 ih49 =>
      intro i hi lo hlo
      refine g_iload X dX11_draughts_49 rfl ?_
      refine g_iload_n X dX11_draughts_51 rfl ?_
      refine g_icmp_ge X 68 dX11_draughts_52 (by decide) (fun c52_70 => absurd c52_70 (fge (a := i) (b := v) (by omega) (by omega) (by omega))) (fun c52_70 => ?_)
      refine g_iload X dX11_draughts_55 rfl ?_
      refine g_bipush X (10) dX11_draughts_57 (by decide) ?_
      refine g_imul X dX11_draughts_59 ?_
      refine g_istore X (L' := [some (.ref mm), some (.int (nI c)), some (.int (nI v)), some (.int x), some (.int 0), some (.int 0), some (.int (lo * 10)), some (.int (nI i)), none, none]) dX11_draughts_60 (by decide) rfl rfl ?_
      refine g_iinc X (v := nI (i + 1)) (L' := [some (.ref mm), some (.int (nI c)), some (.int (nI v)), some (.int x), some (.int 0), some (.int 0), some (.int (lo * 10)), some (.int (nI (i + 1))), none, none]) dX11_draughts_62 rfl (nI_addk (by decide)) (by decide) rfl rfl ?_
      refine g_goto X 49 dX11_draughts_65 (by decide) ?_
      exact ih49 (i + 1) (by omega) (lo * 10) (by rw [tenF, it_s, ← tenF, ← hlo])
  exact loop49_25 v 0 (by omega) 1 rfl

set_option maxHeartbeats 4000000 in
set_option maxRecDepth 100000 in
theorem w_draughts_1 (V : gV) (mm : Nat) (mtx : Nat) (mnu : Nat) (mrc : Nat) (mrw : Nat) (mrl : Nat) (mki : Nat) (mwa : Nat) (mle : Nat) (mno : Nat) (mtr : Nat) (mse : Nat) (mba : Nat) (mim : Nat) (msi : Nat) (mfo : Nat) (mor : Nat) (mbo : Nat) (mma : Nat) (mbm : Nat) (mso : Nat) (le_ : Int32) (po_ : Int32) (fa_ : Int32) (rcl_ : Int32) (rle_ : Int32) (n : Nat) (m : Nat) (ba_ : Int32) (km_ : Int32) (si_ : Int32) (fm_ : Int32) (k : Nat → Int32) (wb : Nat → Int32) (ld : Nat → Nat) (te : Nat → Nat) (pu : Nat → Nat) (day : Int32) (w : Nat → Int32) (g : Nat → Int32) (tr : Nat → Int32) (c : Nat) (v : Nat) (x : Int32) (hn : n ≤ 7) (h1n : 1 ≤ n) (hm : m ≤ 9) (ht : ∀ i, i < m → te i < n ∧ pu i < n) (hB : Bd n w) (hc : c < n) (hv : v ≤ 6) (hx1 : ¬ x < 0) (hx2 : ¬ 10 < x) : Ki V yX11_draughts cX11_draughts 10 .int ({ frames := 3, cells := 0, slots := 0, locals := 71 }) [.ref mm, .int (nI c), .int (nI v), .int x, .int 1] [(mm, .inr (11, [.int le_, .ref mtx, .int po_, .ref mnu, .int fa_, .int rcl_, .int rle_, .ref mrc, .ref mrw, .ref mrl, .int (nI n), .ref mki, .ref mwa, .int (nI m), .ref mle, .ref mno, .ref mtr, .ref mse, .ref mba, .int ba_, .ref mim, .int km_, .int si_, .ref msi, .ref mfo, .int fm_, .ref mor, .ref mbo, .ref mma, .ref mbm, .ref mso])), (mki, .inl (V.2.2.1, 7, .inl k)), (mwa, .inl (V.2.2.1, 7, .inl wb)), (mle, .inl (V.2.2.1, 27, .inl (leF ld te pu))), (mno, .inl (V.2.2.1, 15, .inl (stF day w g))), (mtr, .inl (V.2.2.1, 15, .inl tr))] (fun (r : Int32) (u : (Nat → Int32)) => r = (lowF (aboF k wb ld te pu n m g x day w c v (2 ^ v)) v).2) (fun u => [(mm, .inr (11, [.int le_, .ref mtx, .int po_, .ref mnu, .int fa_, .int rcl_, .int rle_, .ref mrc, .ref mrw, .ref mrl, .int (nI n), .ref mki, .ref mwa, .int (nI m), .ref mle, .ref mno, .ref mtr, .ref mse, .ref mba, .int ba_, .ref mim, .int km_, .int si_, .ref msi, .ref mfo, .int fm_, .ref mor, .ref mbo, .ref mma, .ref mbm, .ref mso])), (mki, .inl (V.2.2.1, 7, .inl k)), (mwa, .inl (V.2.2.1, 7, .inl wb)), (mle, .inl (V.2.2.1, 27, .inl (leF ld te pu))), (mno, .inl (V.2.2.1, 15, .inl (stF day w g))), (mtr, .inl (V.2.2.1, 15, .inl u))]) := by
  refine Ki.of [some (.ref mm), some (.int (nI c)), some (.int (nI v)), some (.int x), some (.int 1), none, none, none, none, none] (by decide) (Nat.le_of_ble_eq_true rfl) rfl rfl ?_
  intro Z X E
  have X : gX V Z RX11 cX11_draughts 10 ({ frames := 3, cells := 0, slots := 0, locals := 71 }) := X
  have h64 := pow64 v (by omega)
  have h10 := ten_le v hv
  refine g_aload_n X dX11_draughts_0 rfl ?_
  refine g_iload_n X dX11_draughts_1 rfl ?_
  refine g_callVi X (c_X11_isClock V mm mtx mnu mrc mrw mrl mki mwa mle mno mtr mse mba mim msi mfo mor mbo mma mbm mso le_ po_ fa_ rcl_ rle_ n (nI m) ba_ km_ si_ fm_ (nI c) (by omega) (by omega)) mo_X11_isClock kl_X11_134 [0] [1, 0, 0, 0, 0, 0] rfl (by decide +kernel) rfl rfl (fun _ => Nat.le_of_ble_eq_true rfl) 0 11 rfl rfl (As := [.int (nI c)]) (st := []) (cs' := (0, 0)) rfl rfl rfl rfl dX11_draughts_2 (fun r_5 u_1 hp_2 ws_4 hw_3 => ?_)
  obtain rfl : r_5 = (if okC n (nI c) then 1 else 0) := hp_2
  have hw_3x : ws_4 = [(mm, .inr (11, [.int le_, .ref mtx, .int po_, .ref mnu, .int fa_, .int rcl_, .int rle_, .ref mrc, .ref mrw, .ref mrl, .int (nI n), .ref mki, .ref mwa, .int (nI m), .ref mle, .ref mno, .ref mtr, .ref mse, .ref mba, .int ba_, .ref mim, .int km_, .int si_, .ref msi, .ref mfo, .int fm_, .ref mor, .ref mbo, .ref mma, .ref mbm, .ref mso])), (mki, .inl (V.2.2.1, 7, .inl k)), (mwa, .inl (V.2.2.1, 7, .inl wb)), (mle, .inl (V.2.2.1, 27, .inl (leF ld te pu))), (mno, .inl (V.2.2.1, 15, .inl (stF day w g))), (mtr, .inl (V.2.2.1, 15, .inl tr))] := hw_3.symm
  clear hw_3; subst hw_3x
  refine g_if_eq X 38 dX11_draughts_5 (by decide) (fun c5_6 => absurd c5_6 (by rw [if_pos (okC_nI hc (by omega))]; decide)) (fun c5_6 => ?_)
  refine g_iload_n X dX11_draughts_8 rfl ?_
  refine g_iconst X (0) dX11_draughts_9 (by decide) ?_
  refine g_bipush X (6) dX11_draughts_10 (by decide) ?_
  refine g_callSi X (c_X11_in V (nI v) 0 6) mo_X11_in kl_X11_94 [] [0, 0, 0, 0, 0, 0] rfl (by decide +kernel) rfl rfl (fun _ => Nat.le_of_ble_eq_true rfl) (As := [.int (nI v), .int 0, .int 6]) (st := []) (cs' := (0, 0)) rfl rfl rfl dX11_draughts_12 (fun r_11 u_7 hp_8 ws_10 hw_9 => ?_)
  obtain rfl : r_11 = inF (nI v) 0 6 := hp_8
  have hw_9x : ws_10 = [(mm, .inr (11, [.int le_, .ref mtx, .int po_, .ref mnu, .int fa_, .int rcl_, .int rle_, .ref mrc, .ref mrw, .ref mrl, .int (nI n), .ref mki, .ref mwa, .int (nI m), .ref mle, .ref mno, .ref mtr, .ref mse, .ref mba, .int ba_, .ref mim, .int km_, .int si_, .ref msi, .ref mfo, .int fm_, .ref mor, .ref mbo, .ref mma, .ref mbm, .ref mso])), (mki, .inl (V.2.2.1, 7, .inl k)), (mwa, .inl (V.2.2.1, 7, .inl wb)), (mle, .inl (V.2.2.1, 27, .inl (leF ld te pu))), (mno, .inl (V.2.2.1, 15, .inl (stF day w g))), (mtr, .inl (V.2.2.1, 15, .inl tr))] := hw_9.symm
  clear hw_9; subst hw_9x
  refine g_if_eq X 38 dX11_draughts_15 (by decide) (fun c15_12 => absurd c15_12 (inF_ne (v := v) (lo := 0) (hi := 6) (by omega) (by omega))) (fun c15_12 => ?_)
  refine g_iload_n X dX11_draughts_18 rfl ?_
  refine g_iconst X (0) dX11_draughts_19 (by decide) ?_
  refine g_bipush X (10) dX11_draughts_20 (by decide) ?_
  refine g_callSi X (c_X11_in V x 0 10) mo_X11_in kl_X11_94 [] [0, 0, 0, 0, 0, 0] rfl (by decide +kernel) rfl rfl (fun _ => Nat.le_of_ble_eq_true rfl) (As := [.int x, .int 0, .int 10]) (st := []) (cs' := (0, 0)) rfl rfl rfl dX11_draughts_22 (fun r_17 u_13 hp_14 ws_16 hw_15 => ?_)
  obtain rfl : r_17 = inF x 0 10 := hp_14
  have hw_15x : ws_16 = [(mm, .inr (11, [.int le_, .ref mtx, .int po_, .ref mnu, .int fa_, .int rcl_, .int rle_, .ref mrc, .ref mrw, .ref mrl, .int (nI n), .ref mki, .ref mwa, .int (nI m), .ref mle, .ref mno, .ref mtr, .ref mse, .ref mba, .int ba_, .ref mim, .int km_, .int si_, .ref msi, .ref mfo, .int fm_, .ref mor, .ref mbo, .ref mma, .ref mbm, .ref mso])), (mki, .inl (V.2.2.1, 7, .inl k)), (mwa, .inl (V.2.2.1, 7, .inl wb)), (mle, .inl (V.2.2.1, 27, .inl (leF ld te pu))), (mno, .inl (V.2.2.1, 15, .inl (stF day w g))), (mtr, .inl (V.2.2.1, 15, .inl tr))] := hw_15.symm
  clear hw_15; subst hw_15x
  refine g_if_eq X 38 dX11_draughts_25 (by decide) (fun c25_18 => absurd c25_18 (by rw [inF_1 hx1 hx2]; decide)) (fun c25_18 => ?_)
  refine g_iload X dX11_draughts_28 rfl ?_
  refine g_iconst X (0) dX11_draughts_30 (by decide) ?_
  refine g_iconst X (1) dX11_draughts_31 (by decide) ?_
  refine g_callSi X (c_X11_in V 1 0 1) mo_X11_in kl_X11_94 [] [0, 0, 0, 0, 0, 0] rfl (by decide +kernel) rfl rfl (fun _ => Nat.le_of_ble_eq_true rfl) (As := [.int 1, .int 0, .int 1]) (st := []) (cs' := (0, 0)) rfl rfl rfl dX11_draughts_32 (fun r_23 u_19 hp_20 ws_22 hw_21 => ?_)
  obtain rfl : r_23 = inF 1 0 1 := hp_20
  have hw_21x : ws_22 = [(mm, .inr (11, [.int le_, .ref mtx, .int po_, .ref mnu, .int fa_, .int rcl_, .int rle_, .ref mrc, .ref mrw, .ref mrl, .int (nI n), .ref mki, .ref mwa, .int (nI m), .ref mle, .ref mno, .ref mtr, .ref mse, .ref mba, .int ba_, .ref mim, .int km_, .int si_, .ref msi, .ref mfo, .int fm_, .ref mor, .ref mbo, .ref mma, .ref mbm, .ref mso])), (mki, .inl (V.2.2.1, 7, .inl k)), (mwa, .inl (V.2.2.1, 7, .inl wb)), (mle, .inl (V.2.2.1, 27, .inl (leF ld te pu))), (mno, .inl (V.2.2.1, 15, .inl (stF day w g))), (mtr, .inl (V.2.2.1, 15, .inl tr))] := hw_21.symm
  clear hw_21; subst hw_21x
  refine g_if_ne X 40 dX11_draughts_35 (by decide) (fun c35_24 => ?_) (fun c35_24 => absurd c35_24 (by decide))
  refine g_iconst X (0) dX11_draughts_40 (by decide) ?_
  refine g_istore X (L' := [some (.ref mm), some (.int (nI c)), some (.int (nI v)), some (.int x), some (.int 1), some (.int 0), none, none, none, none]) dX11_draughts_41 (by decide) rfl rfl ?_
  refine g_iconst X (1) dX11_draughts_43 (by decide) ?_
  refine g_istore X (L' := [some (.ref mm), some (.int (nI c)), some (.int (nI v)), some (.int x), some (.int 1), some (.int 0), some (.int 1), none, none, none]) dX11_draughts_44 (by decide) rfl rfl ?_
  refine g_iconst X (0) dX11_draughts_46 (by decide) ?_
  refine g_istore X (L' := [some (.ref mm), some (.int (nI c)), some (.int (nI v)), some (.int x), some (.int 1), some (.int 0), some (.int 1), some (.int 0), none, none]) dX11_draughts_47 (by decide) rfl rfl ?_
  have loop49_25 : ∀ (d49 i : Nat), i + d49 = v → ∀ (lo : Int32) (hlo : lo = tenF i), G V Z 10 (0, 0) [(mm, .inr (11, [.int le_, .ref mtx, .int po_, .ref mnu, .int fa_, .int rcl_, .int rle_, .ref mrc, .ref mrw, .ref mrl, .int (nI n), .ref mki, .ref mwa, .int (nI m), .ref mle, .ref mno, .ref mtr, .ref mse, .ref mba, .int ba_, .ref mim, .int km_, .int si_, .ref msi, .ref mfo, .int fm_, .ref mor, .ref mbo, .ref mma, .ref mbm, .ref mso])), (mki, .inl (V.2.2.1, 7, .inl k)), (mwa, .inl (V.2.2.1, 7, .inl wb)), (mle, .inl (V.2.2.1, 27, .inl (leF ld te pu))), (mno, .inl (V.2.2.1, 15, .inl (stF day w g))), (mtr, .inl (V.2.2.1, 15, .inl tr))] 49 [some (.ref mm), some (.int (nI c)), some (.int (nI v)), some (.int x), some (.int 1), some (.int 0), some (.int lo), some (.int (nI i)), none, none] [] := by
    intro d49
    induction d49 with
    | zero =>
      intro i hi lo hlo
      refine g_iload X dX11_draughts_49 rfl ?_
      refine g_iload_n X dX11_draughts_51 rfl ?_
      refine g_icmp_ge X 68 dX11_draughts_52 (by decide) (fun c52_26 => ?_) (fun c52_26 => absurd (tge (a := i) (b := v) (by omega) (by omega) (by omega)) c52_26)
      obtain rfl : lo = nI (10 ^ v) := (by have e : i = v := (by omega); subst e; rw [hlo]; exact tenF_eq i hv)
      refine g_iconst X (0) dX11_draughts_68 (by decide) ?_
      refine g_istore X (L' := [some (.ref mm), some (.int (nI c)), some (.int (nI v)), some (.int x), some (.int 1), some (.int 0), some (.int (nI (10 ^ v))), some (.int 0), none, none]) dX11_draughts_69 (by decide) rfl rfl ?_
      have loop71_27 : ∀ (d71 dd : Nat), dd + d71 = 2 ^ v → ∀ (up : Int32) (tr1 : Nat → Int32) (h5 : up = aboF k wb ld te pu n m g x day w c v dd), G V Z 10 (0, 0) [(mm, .inr (11, [.int le_, .ref mtx, .int po_, .ref mnu, .int fa_, .int rcl_, .int rle_, .ref mrc, .ref mrw, .ref mrl, .int (nI n), .ref mki, .ref mwa, .int (nI m), .ref mle, .ref mno, .ref mtr, .ref mse, .ref mba, .int ba_, .ref mim, .int km_, .int si_, .ref msi, .ref mfo, .int fm_, .ref mor, .ref mbo, .ref mma, .ref mbm, .ref mso])), (mki, .inl (V.2.2.1, 7, .inl k)), (mwa, .inl (V.2.2.1, 7, .inl wb)), (mle, .inl (V.2.2.1, 27, .inl (leF ld te pu))), (mno, .inl (V.2.2.1, 15, .inl (stF day w g))), (mtr, .inl (V.2.2.1, 15, .inl tr1))] 71 [some (.ref mm), some (.int (nI c)), some (.int (nI v)), some (.int x), some (.int 1), some (.int up), some (.int (nI (10 ^ v))), some (.int (nI dd)), none, none] [] := by
        intro d71
        induction d71 with
        | zero =>
          intro dd hdd up tr1 h5
          refine g_iload X dX11_draughts_71 rfl ?_
          refine g_iconst X (1) dX11_draughts_73 (by decide) ?_
          refine g_iload_n X dX11_draughts_74 rfl ?_
          refine g_ishl X dX11_draughts_75 ?_
          refine g_toe (x' := nI (2 ^ v)) (shl2 v (by omega)) ?_
          refine g_icmp_ge X 184 dX11_draughts_76 (by decide) (fun c76_28 => ?_) (fun c76_28 => absurd (tge (a := dd) (b := 2 ^ v) (by omega) (by omega) (by omega)) c76_28)
          obtain ⟨u, hu1, hu2⟩ := abo_lt (k := k) (wb := wb) (ld := ld) (te := te) (pu := pu) (n := n) (m := m) (g := g) (day := day) (w := w) (c := c) hx1 hx2 hv; obtain rfl : up = nI u := (by have e : dd = 2 ^ v := (by omega); subst e; rw [h5]; exact hu1)
          refine g_iload X dX11_draughts_184 rfl ?_
          refine g_istore X (L' := [some (.ref mm), some (.int (nI c)), some (.int (nI v)), some (.int x), some (.int 1), some (.int (nI u)), some (.int (nI (10 ^ v))), some (.int (nI u)), none, none]) dX11_draughts_186 (by decide) rfl rfl ?_
          refine g_iload X dX11_draughts_188 rfl ?_
          refine g_istore X (L' := [some (.ref mm), some (.int (nI c)), some (.int (nI v)), some (.int x), some (.int 1), some (.int (nI u)), some (.int (nI (10 ^ v))), some (.int (nI u)), some (.int (nI (10 ^ v))), none]) dX11_draughts_190 (by decide) rfl rfl ?_
          have loop192_29 : ∀ (d192 : Nat) (rs : Nat) (lo2 : Nat) (hrs : rs ≤ 64000000) (hlo2 : lo2 ≤ 64000000) (hgc2 : Nat.gcd rs lo2 = Nat.gcd u (10 ^ v)), lo2 < d192 → G V Z 10 (0, 0) [(mm, .inr (11, [.int le_, .ref mtx, .int po_, .ref mnu, .int fa_, .int rcl_, .int rle_, .ref mrc, .ref mrw, .ref mrl, .int (nI n), .ref mki, .ref mwa, .int (nI m), .ref mle, .ref mno, .ref mtr, .ref mse, .ref mba, .int ba_, .ref mim, .int km_, .int si_, .ref msi, .ref mfo, .int fm_, .ref mor, .ref mbo, .ref mma, .ref mbm, .ref mso])), (mki, .inl (V.2.2.1, 7, .inl k)), (mwa, .inl (V.2.2.1, 7, .inl wb)), (mle, .inl (V.2.2.1, 27, .inl (leF ld te pu))), (mno, .inl (V.2.2.1, 15, .inl (stF day w g))), (mtr, .inl (V.2.2.1, 15, .inl tr1))] 192 [some (.ref mm), some (.int (nI c)), some (.int (nI v)), some (.int x), some (.int 1), some (.int (nI u)), some (.int (nI (10 ^ v))), some (.int (nI rs)), some (.int (nI lo2)), none] [] := by
            intro d192
            induction d192 with
            | zero => intro rs lo2 hrs hlo2 hgc2 hmu; exact absurd hmu (Nat.not_lt_zero _)
            | succ d192 ih192 =>
              intro rs lo2 hrs hlo2 hgc2 hmu
              refine g_iload X dX11_draughts_192 rfl ?_
              refine g_if_le X 215 dX11_draughts_194 (by decide) (fun c194_30 => ?_) (fun c194_30 => ?_)
              · have c194_30n := ile' (a := lo2) (b := 0) c194_30 (by omega) (by omega)
                have hy0 : lo2 = 0 := (by omega)
                have hgg : Nat.gcd u (10 ^ v) = rs := (by rw [← hgc2, hy0, Nat.gcd_zero_right])
                have hr0 : rs ≠ 0 := (by rw [← hgg]; exact Nat.pos_iff_ne_zero.mp (Nat.gcd_pos_of_pos_right _ (by omega)))
                refine g_iload X dX11_draughts_215 rfl ?_
                refine g_if_ne X 225 dX11_draughts_217 (by decide) (fun c217_31 => ?_) (fun c217_31 => absurd c217_31 (by decide))
                refine g_iload X dX11_draughts_225 rfl ?_
                refine g_iload X dX11_draughts_227 rfl ?_
                refine g_idiv X dX11_draughts_229 (fun z => hr0 ((nI_z (by omega)).mp z)) ?_
                refine g_toe (x' := nI ((10 ^ v) / rs)) (nI_div' rfl rfl (by omega) (by omega) (by omega)) ?_
                exact g_iret X E dX11_draughts_230 tr1 (nI ((10 ^ v) / rs)) (by rw [hu1, low_eq hv (by omega), hgg]) rfl
              · have c194_30n := inle' (a := lo2) (b := 0) c194_30 (by omega) (by omega)
                have hml := Nat.mod_lt rs (show 0 < lo2 by omega)
                refine g_iload X dX11_draughts_197 rfl ?_
                refine g_iload X dX11_draughts_199 rfl ?_
                refine g_rem X dX11_draughts_201 (fun z => absurd ((nI_z (by omega)).mp z) (by omega)) ?_
                refine g_toe (x' := nI (rs % lo2)) (nI_mod' rfl rfl (by omega) (by omega) (by omega)) ?_
                refine g_istore X (L' := [some (.ref mm), some (.int (nI c)), some (.int (nI v)), some (.int x), some (.int 1), some (.int (nI u)), some (.int (nI (10 ^ v))), some (.int (nI rs)), some (.int (nI lo2)), some (.int (nI (rs % lo2)))]) dX11_draughts_202 (by decide) rfl rfl ?_
                refine g_iload X dX11_draughts_204 rfl ?_
                refine g_istore X (L' := [some (.ref mm), some (.int (nI c)), some (.int (nI v)), some (.int x), some (.int 1), some (.int (nI u)), some (.int (nI (10 ^ v))), some (.int (nI lo2)), some (.int (nI lo2)), some (.int (nI (rs % lo2)))]) dX11_draughts_206 (by decide) rfl rfl ?_
                refine g_iload X dX11_draughts_208 rfl ?_
                refine g_istore X (L' := [some (.ref mm), some (.int (nI c)), some (.int (nI v)), some (.int x), some (.int 1), some (.int (nI u)), some (.int (nI (10 ^ v))), some (.int (nI lo2)), some (.int (nI (rs % lo2))), some (.int (nI (rs % lo2)))]) dX11_draughts_210 (by decide) rfl rfl ?_
                refine g_goto X 192 dX11_draughts_212 (by decide) ?_
                refine g_sub (L' := [some (.ref mm), some (.int (nI c)), some (.int (nI v)), some (.int x), some (.int 1), some (.int (nI u)), some (.int (nI (10 ^ v))), some (.int (nI lo2)), some (.int (nI (rs % lo2))), none]) ⟨rfl, ⟨rfl, ⟨rfl, ⟨rfl, ⟨rfl, ⟨rfl, ⟨rfl, ⟨rfl, ⟨rfl, trivial⟩⟩⟩⟩⟩⟩⟩⟩⟩ ?_
                exact ih192 lo2 (rs % lo2) hlo2 (by omega) (gcd_st hgc2) (by omega)
          exact loop192_29 _ u (10 ^ v) hu2 (by omega) rfl (Nat.lt_succ_self _)
        | succ d71 ih71 =>
          intro dd hdd up tr1 h5
          refine g_iload X dX11_draughts_71 rfl ?_
          refine g_iconst X (1) dX11_draughts_73 (by decide) ?_
          refine g_iload_n X dX11_draughts_74 rfl ?_
          refine g_ishl X dX11_draughts_75 ?_
          refine g_toe (x' := nI (2 ^ v)) (shl2 v (by omega)) ?_
          refine g_icmp_ge X 184 dX11_draughts_76 (by decide) (fun c76_32 => absurd c76_32 (fge (a := dd) (b := 2 ^ v) (by omega) (by omega) (by omega))) (fun c76_32 => ?_)
          refine g_aload_n X dX11_draughts_79 rfl ?_
          refine g_get X uwX11 0 rfl rfl 15 (by decide) kl_X11_34 rfl rfl gwX11 dX11_draughts_80 ?_
          refine g_iconst X (0) dX11_draughts_83 (by decide) ?_
          refine g_aload_n X dX11_draughts_84 rfl ?_
          refine g_get X uwX11 0 rfl rfl 16 (by decide) kl_X11_37 rfl rfl gwX11 dX11_draughts_85 ?_
          refine g_iconst X (0) dX11_draughts_88 (by decide) ?_
          refine g_callSv X (c_X11_copy V mno 15 (stF day w g) mtr 15 tr1 0 0 (by omega) (by omega) (by omega) (by omega)) mo_X11_copy kl_X11_165 [4, 5] [0, 0, 0, 0, 1, 2] rfl (by decide +kernel) rfl rfl (fun _ => Nat.le_of_ble_eq_true rfl) (As := [.ref mno, .int 0, .ref mtr, .int 0]) (st := []) (cs' := (0, 0)) rfl rfl rfl dX11_draughts_89 (fun u_33 hp_34 ws_36 hw_35 => ?_)
          have hw_35x : ws_36 = [(mm, .inr (11, [.int le_, .ref mtx, .int po_, .ref mnu, .int fa_, .int rcl_, .int rle_, .ref mrc, .ref mrw, .ref mrl, .int (nI n), .ref mki, .ref mwa, .int (nI m), .ref mle, .ref mno, .ref mtr, .ref mse, .ref mba, .int ba_, .ref mim, .int km_, .int si_, .ref msi, .ref mfo, .int fm_, .ref mor, .ref mbo, .ref mma, .ref mbm, .ref mso])), (mki, .inl (V.2.2.1, 7, .inl k)), (mwa, .inl (V.2.2.1, 7, .inl wb)), (mle, .inl (V.2.2.1, 27, .inl (leF ld te pu))), (mno, .inl (V.2.2.1, 15, .inl (stF day w g))), (mtr, .inl (V.2.2.1, 15, .inl (cpM 0 0 (stF day w g) tr1)))] := hw_35.symm
          clear hw_35; subst hw_35x
          refine g_arr 5 (stF day w g) rfl cpM_0 (ws' := [(mm, .inr (11, [.int le_, .ref mtx, .int po_, .ref mnu, .int fa_, .int rcl_, .int rle_, .ref mrc, .ref mrw, .ref mrl, .int (nI n), .ref mki, .ref mwa, .int (nI m), .ref mle, .ref mno, .ref mtr, .ref mse, .ref mba, .int ba_, .ref mim, .int km_, .int si_, .ref msi, .ref mfo, .int fm_, .ref mor, .ref mbo, .ref mma, .ref mbm, .ref mso])), (mki, .inl (V.2.2.1, 7, .inl k)), (mwa, .inl (V.2.2.1, 7, .inl wb)), (mle, .inl (V.2.2.1, 27, .inl (leF ld te pu))), (mno, .inl (V.2.2.1, 15, .inl (stF day w g))), (mtr, .inl (V.2.2.1, 15, .inl (stF day w g)))]) rfl ?_
          refine g_iconst X (1) dX11_draughts_92 (by decide) ?_
          refine g_istore X (L' := [some (.ref mm), some (.int (nI c)), some (.int (nI v)), some (.int x), some (.int 1), some (.int up), some (.int (nI (10 ^ v))), some (.int (nI dd)), some (.int 1), none]) dX11_draughts_93 (by decide) rfl rfl ?_
          refine g_iconst X (0) dX11_draughts_95 (by decide) ?_
          refine g_istore X (L' := [some (.ref mm), some (.int (nI c)), some (.int (nI v)), some (.int x), some (.int 1), some (.int up), some (.int (nI (10 ^ v))), some (.int (nI dd)), some (.int 1), some (.int 0)]) dX11_draughts_96 (by decide) rfl rfl ?_
          have loop98_38 : ∀ (d98 i2 : Nat), i2 + d98 = v → ∀ (pr : Int32) (dy : Int32) (w1 : Nat → Int32) (hB1 : Bd n w1) (h6 : (pr, w1) = draF k wb ld te pu n m g x day w i2 dd) (h7 : dy = day + nI i2), G V Z 10 (0, 0) [(mm, .inr (11, [.int le_, .ref mtx, .int po_, .ref mnu, .int fa_, .int rcl_, .int rle_, .ref mrc, .ref mrw, .ref mrl, .int (nI n), .ref mki, .ref mwa, .int (nI m), .ref mle, .ref mno, .ref mtr, .ref mse, .ref mba, .int ba_, .ref mim, .int km_, .int si_, .ref msi, .ref mfo, .int fm_, .ref mor, .ref mbo, .ref mma, .ref mbm, .ref mso])), (mki, .inl (V.2.2.1, 7, .inl k)), (mwa, .inl (V.2.2.1, 7, .inl wb)), (mle, .inl (V.2.2.1, 27, .inl (leF ld te pu))), (mno, .inl (V.2.2.1, 15, .inl (stF day w g))), (mtr, .inl (V.2.2.1, 15, .inl (stF dy w1 g)))] 98 [some (.ref mm), some (.int (nI c)), some (.int (nI v)), some (.int x), some (.int 1), some (.int up), some (.int (nI (10 ^ v))), some (.int (nI dd)), some (.int pr), some (.int (nI i2))] [] := by
            intro d98
            induction d98 with
            | zero =>
              intro i2 hi2 pr dy w1 hB1 h6 h7
              refine g_iload X dX11_draughts_98 rfl ?_
              refine g_iload_n X dX11_draughts_100 rfl ?_
              refine g_icmp_ge X 156 dX11_draughts_101 (by decide) (fun c101_39 => ?_) (fun c101_39 => absurd (tge (a := i2) (b := v) (by omega) (by omega) (by omega)) c101_39)
              refine g_iload X dX11_draughts_156 rfl ?_
              refine g_aload_n X dX11_draughts_158 rfl ?_
              refine g_get X uwX11 0 rfl rfl 16 (by decide) kl_X11_37 rfl rfl gwX11 dX11_draughts_159 ?_
              refine g_iconst X (1) dX11_draughts_162 (by decide) ?_
              refine g_iload_n X dX11_draughts_163 rfl ?_
              refine g_iadd X dX11_draughts_164 ?_
              refine g_toe (x' := nI (1 + c)) (nI_add' rfl rfl) ?_
              refine g_iald' X 5 rfl (i := (1 + c)) rfl (by omega) (by omega) dX11_draughts_165 ?_
              refine g_toe (x' := w1 c) (stF_w _ _ _ c (by omega)) ?_
              refine g_if_ne X 174 dX11_draughts_166 (by decide) (fun c166_40 => ?_) (fun c166_40 => ?_)
              · refine g_iconst X (0) dX11_draughts_174 (by decide) ?_
                refine g_iadd X dX11_draughts_175 ?_
                refine g_istore X (L' := [some (.ref mm), some (.int (nI c)), some (.int (nI v)), some (.int x), some (.int 1), some (.int (up + 0)), some (.int (nI (10 ^ v))), some (.int (nI dd)), some (.int pr), some (.int (nI i2))]) dX11_draughts_176 (by decide) rfl rfl ?_
                refine g_iinc X (v := nI (dd + 1)) (L' := [some (.ref mm), some (.int (nI c)), some (.int (nI v)), some (.int x), some (.int 1), some (.int (up + 0)), some (.int (nI (10 ^ v))), some (.int (nI (dd + 1))), some (.int pr), some (.int (nI i2))]) dX11_draughts_178 rfl (nI_addk (by decide)) (by decide) rfl rfl ?_
                refine g_goto X 71 dX11_draughts_181 (by decide) ?_
                refine g_sub (L' := [some (.ref mm), some (.int (nI c)), some (.int (nI v)), some (.int x), some (.int 1), some (.int (up + 0)), some (.int (nI (10 ^ v))), some (.int (nI (dd + 1))), none, none]) ⟨rfl, ⟨rfl, ⟨rfl, ⟨rfl, ⟨rfl, ⟨rfl, ⟨rfl, ⟨rfl, trivial⟩⟩⟩⟩⟩⟩⟩⟩ ?_
                exact ih71 (dd + 1) (by omega) (up + 0) (stF dy w1 g) (by have e : i2 = v := (by omega); subst e; rw [abo_s h5 h6]; simp [c166_40])
              · refine g_iload X dX11_draughts_169 rfl ?_
                refine g_goto X 175 dX11_draughts_171 (by decide) ?_
                refine g_iadd X dX11_draughts_175 ?_
                refine g_istore X (L' := [some (.ref mm), some (.int (nI c)), some (.int (nI v)), some (.int x), some (.int 1), some (.int (up + pr)), some (.int (nI (10 ^ v))), some (.int (nI dd)), some (.int pr), some (.int (nI i2))]) dX11_draughts_176 (by decide) rfl rfl ?_
                refine g_iinc X (v := nI (dd + 1)) (L' := [some (.ref mm), some (.int (nI c)), some (.int (nI v)), some (.int x), some (.int 1), some (.int (up + pr)), some (.int (nI (10 ^ v))), some (.int (nI (dd + 1))), some (.int pr), some (.int (nI i2))]) dX11_draughts_178 rfl (nI_addk (by decide)) (by decide) rfl rfl ?_
                refine g_goto X 71 dX11_draughts_181 (by decide) ?_
                refine g_sub (L' := [some (.ref mm), some (.int (nI c)), some (.int (nI v)), some (.int x), some (.int 1), some (.int (up + pr)), some (.int (nI (10 ^ v))), some (.int (nI (dd + 1))), none, none]) ⟨rfl, ⟨rfl, ⟨rfl, ⟨rfl, ⟨rfl, ⟨rfl, ⟨rfl, ⟨rfl, trivial⟩⟩⟩⟩⟩⟩⟩⟩ ?_
                exact ih71 (dd + 1) (by omega) (up + pr) (stF dy w1 g) (by have e : i2 = v := (by omega); subst e; rw [abo_s h5 h6]; simp [c166_40])
            | succ d98 ih98 =>
              intro i2 hi2 pr dy w1 hB1 h6 h7
              refine g_iload X dX11_draughts_98 rfl ?_
              refine g_iload_n X dX11_draughts_100 rfl ?_
              refine g_icmp_ge X 156 dX11_draughts_101 (by decide) (fun c101_41 => absurd c101_41 (fge (a := i2) (b := v) (by omega) (by omega) (by omega))) (fun c101_41 => ?_)
              refine g_iload X dX11_draughts_104 rfl ?_
              refine g_iload X dX11_draughts_106 rfl ?_
              refine g_iload X dX11_draughts_108 rfl ?_
              refine g_callSi X (c_X11_has V (nI dd) i2) mo_X11_has kl_X11_158 [] [0, 0, 0, 0, 0, 0] rfl (by decide +kernel) rfl rfl (fun _ => Nat.le_of_ble_eq_true rfl) (As := [.int (nI dd), .int (nI i2)]) (st := [.int pr]) (cs' := (0, 0)) rfl rfl rfl dX11_draughts_110 (fun r_46 u_42 hp_43 ws_45 hw_44 => ?_)
              obtain rfl : r_46 = hasF (nI dd) i2 := hp_43
              have hw_44x : ws_45 = [(mm, .inr (11, [.int le_, .ref mtx, .int po_, .ref mnu, .int fa_, .int rcl_, .int rle_, .ref mrc, .ref mrw, .ref mrl, .int (nI n), .ref mki, .ref mwa, .int (nI m), .ref mle, .ref mno, .ref mtr, .ref mse, .ref mba, .int ba_, .ref mim, .int km_, .int si_, .ref msi, .ref mfo, .int fm_, .ref mor, .ref mbo, .ref mma, .ref mbm, .ref mso])), (mki, .inl (V.2.2.1, 7, .inl k)), (mwa, .inl (V.2.2.1, 7, .inl wb)), (mle, .inl (V.2.2.1, 27, .inl (leF ld te pu))), (mno, .inl (V.2.2.1, 15, .inl (stF day w g))), (mtr, .inl (V.2.2.1, 15, .inl (stF dy w1 g)))] := hw_44.symm
              clear hw_44; subst hw_44x
              refine g_if_eq X 120 dX11_draughts_113 (by decide) (fun c113_47 => ?_) (fun c113_47 => ?_)
              · refine g_bipush X (10) dX11_draughts_120 (by decide) ?_
                refine g_iload_n X dX11_draughts_122 rfl ?_
                refine g_isub X dX11_draughts_123 ?_
                refine g_imul X dX11_draughts_124 ?_
                refine g_istore X (L' := [some (.ref mm), some (.int (nI c)), some (.int (nI v)), some (.int x), some (.int 1), some (.int up), some (.int (nI (10 ^ v))), some (.int (nI dd)), some (.int (pr * (10 - x))), some (.int (nI i2))]) dX11_draughts_125 (by decide) rfl rfl ?_
                refine g_aload_n X dX11_draughts_127 rfl ?_
                refine g_aload_n X dX11_draughts_128 rfl ?_
                refine g_get X uwX11 0 rfl rfl 16 (by decide) kl_X11_37 rfl rfl gwX11 dX11_draughts_129 ?_
                refine g_iload X dX11_draughts_132 rfl ?_
                refine g_iload X dX11_draughts_134 rfl ?_
                refine g_callSi X (c_X11_has V (nI dd) i2) mo_X11_has kl_X11_158 [] [0, 0, 0, 0, 0, 0] rfl (by decide +kernel) rfl rfl (fun _ => Nat.le_of_ble_eq_true rfl) (As := [.int (nI dd), .int (nI i2)]) (st := [.ref mtr, .ref mm]) (cs' := (0, 0)) rfl rfl rfl dX11_draughts_136 (fun r_52 u_48 hp_49 ws_51 hw_50 => ?_)
                obtain rfl : r_52 = hasF (nI dd) i2 := hp_49
                have hw_50x : ws_51 = [(mm, .inr (11, [.int le_, .ref mtx, .int po_, .ref mnu, .int fa_, .int rcl_, .int rle_, .ref mrc, .ref mrw, .ref mrl, .int (nI n), .ref mki, .ref mwa, .int (nI m), .ref mle, .ref mno, .ref mtr, .ref mse, .ref mba, .int ba_, .ref mim, .int km_, .int si_, .ref msi, .ref mfo, .int fm_, .ref mor, .ref mbo, .ref mma, .ref mbm, .ref mso])), (mki, .inl (V.2.2.1, 7, .inl k)), (mwa, .inl (V.2.2.1, 7, .inl wb)), (mle, .inl (V.2.2.1, 27, .inl (leF ld te pu))), (mno, .inl (V.2.2.1, 15, .inl (stF day w g))), (mtr, .inl (V.2.2.1, 15, .inl (stF dy w1 g)))] := hw_50.symm
                clear hw_50; subst hw_50x
                refine g_if_ne X 146 dX11_draughts_139 (by decide) (fun c139_53 => absurd c113_47 c139_53) (fun c139_53 => ?_)
                refine g_iconst X (1) dX11_draughts_142 (by decide) ?_
                refine g_goto X 147 dX11_draughts_143 (by decide) ?_
                refine g_callVv X (c_X11_passOn V mm mtx mnu mrc mrw mrl mki mwa mle mno mtr mse mba mim msi mfo mor mbo mma mbm mso le_ po_ fa_ rcl_ rle_ n m ba_ km_ si_ fm_ k wb ld te pu dy w1 g mtr 1 (by omega) (by omega) (by omega) ht hB1) mo_X11_passOn kl_X11_172 [0, 1, 2, 3, 5] [1, 2, 3, 4, 0, 5] rfl (by decide +kernel) rfl rfl (fun _ => Nat.le_of_ble_eq_true rfl) 0 11 rfl rfl (As := [.ref mtr, .int 1]) (st := []) (cs' := (0, 0)) rfl rfl rfl rfl dX11_draughts_147 (fun nw_54 hp_55 ws_57 hw_56 => ?_)
                obtain rfl : nw_54 = dayF k wb ld te pu n m g 1 dy w1 := hp_55
                have hw_56x : ws_57 = [(mm, .inr (11, [.int le_, .ref mtx, .int po_, .ref mnu, .int fa_, .int rcl_, .int rle_, .ref mrc, .ref mrw, .ref mrl, .int (nI n), .ref mki, .ref mwa, .int (nI m), .ref mle, .ref mno, .ref mtr, .ref mse, .ref mba, .int ba_, .ref mim, .int km_, .int si_, .ref msi, .ref mfo, .int fm_, .ref mor, .ref mbo, .ref mma, .ref mbm, .ref mso])), (mki, .inl (V.2.2.1, 7, .inl k)), (mwa, .inl (V.2.2.1, 7, .inl wb)), (mle, .inl (V.2.2.1, 27, .inl (leF ld te pu))), (mno, .inl (V.2.2.1, 15, .inl (stF day w g))), (mtr, .inl (V.2.2.1, 15, .inl (stF (dy + 1) (dayF k wb ld te pu n m g 1 dy w1) g)))] := hw_56.symm
                clear hw_56; subst hw_56x
                refine g_iinc X (v := nI (i2 + 1)) (L' := [some (.ref mm), some (.int (nI c)), some (.int (nI v)), some (.int x), some (.int 1), some (.int up), some (.int (nI (10 ^ v))), some (.int (nI dd)), some (.int (pr * (10 - x))), some (.int (nI (i2 + 1)))]) dX11_draughts_150 rfl (nI_addk (by decide)) (by decide) rfl rfl ?_
                refine g_goto X 98 dX11_draughts_153 (by decide) ?_
                exact ih98 (i2 + 1) (by omega) (pr * (10 - x)) (dy + 1) (dayF k wb ld te pu n m g 1 dy w1) Bd_day (by rw [dra_s h6, draS, ← h7]; simp [c113_47]) (by rw [h7, Int32.add_assoc, nI_1])
              · refine g_iload_n X dX11_draughts_116 rfl ?_
                refine g_goto X 124 dX11_draughts_117 (by decide) ?_
                refine g_imul X dX11_draughts_124 ?_
                refine g_istore X (L' := [some (.ref mm), some (.int (nI c)), some (.int (nI v)), some (.int x), some (.int 1), some (.int up), some (.int (nI (10 ^ v))), some (.int (nI dd)), some (.int (pr * x)), some (.int (nI i2))]) dX11_draughts_125 (by decide) rfl rfl ?_
                refine g_aload_n X dX11_draughts_127 rfl ?_
                refine g_aload_n X dX11_draughts_128 rfl ?_
                refine g_get X uwX11 0 rfl rfl 16 (by decide) kl_X11_37 rfl rfl gwX11 dX11_draughts_129 ?_
                refine g_iload X dX11_draughts_132 rfl ?_
                refine g_iload X dX11_draughts_134 rfl ?_
                refine g_callSi X (c_X11_has V (nI dd) i2) mo_X11_has kl_X11_158 [] [0, 0, 0, 0, 0, 0] rfl (by decide +kernel) rfl rfl (fun _ => Nat.le_of_ble_eq_true rfl) (As := [.int (nI dd), .int (nI i2)]) (st := [.ref mtr, .ref mm]) (cs' := (0, 0)) rfl rfl rfl dX11_draughts_136 (fun r_63 u_59 hp_60 ws_62 hw_61 => ?_)
                obtain rfl : r_63 = hasF (nI dd) i2 := hp_60
                have hw_61x : ws_62 = [(mm, .inr (11, [.int le_, .ref mtx, .int po_, .ref mnu, .int fa_, .int rcl_, .int rle_, .ref mrc, .ref mrw, .ref mrl, .int (nI n), .ref mki, .ref mwa, .int (nI m), .ref mle, .ref mno, .ref mtr, .ref mse, .ref mba, .int ba_, .ref mim, .int km_, .int si_, .ref msi, .ref mfo, .int fm_, .ref mor, .ref mbo, .ref mma, .ref mbm, .ref mso])), (mki, .inl (V.2.2.1, 7, .inl k)), (mwa, .inl (V.2.2.1, 7, .inl wb)), (mle, .inl (V.2.2.1, 27, .inl (leF ld te pu))), (mno, .inl (V.2.2.1, 15, .inl (stF day w g))), (mtr, .inl (V.2.2.1, 15, .inl (stF dy w1 g)))] := hw_61.symm
                clear hw_61; subst hw_61x
                refine g_if_ne X 146 dX11_draughts_139 (by decide) (fun c139_64 => ?_) (fun c139_64 => absurd c139_64 c113_47)
                refine g_iconst X (0) dX11_draughts_146 (by decide) ?_
                refine g_callVv X (c_X11_passOn V mm mtx mnu mrc mrw mrl mki mwa mle mno mtr mse mba mim msi mfo mor mbo mma mbm mso le_ po_ fa_ rcl_ rle_ n m ba_ km_ si_ fm_ k wb ld te pu dy w1 g mtr 0 (by omega) (by omega) (by omega) ht hB1) mo_X11_passOn kl_X11_172 [0, 1, 2, 3, 5] [1, 2, 3, 4, 0, 5] rfl (by decide +kernel) rfl rfl (fun _ => Nat.le_of_ble_eq_true rfl) 0 11 rfl rfl (As := [.ref mtr, .int 0]) (st := []) (cs' := (0, 0)) rfl rfl rfl rfl dX11_draughts_147 (fun nw_65 hp_66 ws_68 hw_67 => ?_)
                obtain rfl : nw_65 = dayF k wb ld te pu n m g 0 dy w1 := hp_66
                have hw_67x : ws_68 = [(mm, .inr (11, [.int le_, .ref mtx, .int po_, .ref mnu, .int fa_, .int rcl_, .int rle_, .ref mrc, .ref mrw, .ref mrl, .int (nI n), .ref mki, .ref mwa, .int (nI m), .ref mle, .ref mno, .ref mtr, .ref mse, .ref mba, .int ba_, .ref mim, .int km_, .int si_, .ref msi, .ref mfo, .int fm_, .ref mor, .ref mbo, .ref mma, .ref mbm, .ref mso])), (mki, .inl (V.2.2.1, 7, .inl k)), (mwa, .inl (V.2.2.1, 7, .inl wb)), (mle, .inl (V.2.2.1, 27, .inl (leF ld te pu))), (mno, .inl (V.2.2.1, 15, .inl (stF day w g))), (mtr, .inl (V.2.2.1, 15, .inl (stF (dy + 1) (dayF k wb ld te pu n m g 0 dy w1) g)))] := hw_67.symm
                clear hw_67; subst hw_67x
                refine g_iinc X (v := nI (i2 + 1)) (L' := [some (.ref mm), some (.int (nI c)), some (.int (nI v)), some (.int x), some (.int 1), some (.int up), some (.int (nI (10 ^ v))), some (.int (nI dd)), some (.int (pr * x)), some (.int (nI (i2 + 1)))]) dX11_draughts_150 rfl (nI_addk (by decide)) (by decide) rfl rfl ?_
                refine g_goto X 98 dX11_draughts_153 (by decide) ?_
                exact ih98 (i2 + 1) (by omega) (pr * x) (dy + 1) (dayF k wb ld te pu n m g 0 dy w1) Bd_day (by rw [dra_s h6, draS, ← h7]; simp [c113_47]) (by rw [h7, Int32.add_assoc, nI_1])
          exact loop98_38 v 0 (by omega) 1 day w hB rfl (by rw [nI_0, Int32.add_zero])
      exact loop71_27 (2 ^ v) 0 (by omega) 0 tr rfl
    | succ d49 ih49 =>
      intro i hi lo hlo
      refine g_iload X dX11_draughts_49 rfl ?_
      refine g_iload_n X dX11_draughts_51 rfl ?_
      refine g_icmp_ge X 68 dX11_draughts_52 (by decide) (fun c52_70 => absurd c52_70 (fge (a := i) (b := v) (by omega) (by omega) (by omega))) (fun c52_70 => ?_)
      refine g_iload X dX11_draughts_55 rfl ?_
      refine g_bipush X (10) dX11_draughts_57 (by decide) ?_
      refine g_imul X dX11_draughts_59 ?_
      refine g_istore X (L' := [some (.ref mm), some (.int (nI c)), some (.int (nI v)), some (.int x), some (.int 1), some (.int 0), some (.int (lo * 10)), some (.int (nI i)), none, none]) dX11_draughts_60 (by decide) rfl rfl ?_
      refine g_iinc X (v := nI (i + 1)) (L' := [some (.ref mm), some (.int (nI c)), some (.int (nI v)), some (.int x), some (.int 1), some (.int 0), some (.int (lo * 10)), some (.int (nI (i + 1))), none, none]) dX11_draughts_62 rfl (nI_addk (by decide)) (by decide) rfl rfl ?_
      refine g_goto X 49 dX11_draughts_65 (by decide) ?_
      exact ih49 (i + 1) (by omega) (lo * 10) (by rw [tenF, it_s, ← tenF, ← hlo])
  exact loop49_25 v 0 (by omega) 1 rfl
