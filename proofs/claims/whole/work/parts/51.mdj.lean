set_option maxHeartbeats 4000000 in
set_option maxRecDepth 100000 in
theorem c_X11_letterAt_in (V : gV) (mm : Nat) (mtx : Nat) (mnu : Nat) (mrc : Nat) (mrw : Nat) (mrl : Nat) (mki : Nat) (mwa : Nat) (mle : Nat) (mno : Nat) (mtr : Nat) (mse : Nat) (mba : Nat) (mim : Nat) (msi : Nat) (mfo : Nat) (mor : Nat) (mbo : Nat) (mma : Nat) (mbm : Nat) (mso : Nat) (x : Nat) (po_ : Int32) (fa_ : Int32) (rcl_ : Int32) (rle_ : Int32) (cl_ : Int32) (ls_ : Int32) (ba_ : Int32) (km_ : Int32) (si_ : Int32) (fm_ : Int32) (tf : Nat → Nat) (p0 : Nat) (hx : x ≤ 200) (hp0 : p0 < x) : Ki V yX11_letterAt cX11_letterAt 2 .int ({ frames := 0, cells := 0, slots := 0, locals := 0 }) [.ref mm, .int (nI p0)] [(mm, .inr (11, [.int (nI x), .ref mtx, .int po_, .ref mnu, .int fa_, .int rcl_, .int rle_, .ref mrc, .ref mrw, .ref mrl, .int cl_, .ref mki, .ref mwa, .int ls_, .ref mle, .ref mno, .ref mtr, .ref mse, .ref mba, .int ba_, .ref mim, .int km_, .int si_, .ref msi, .ref mfo, .int fm_, .ref mor, .ref mbo, .ref mma, .ref mbm, .ref mso])), (mtx, .inl (V.2.2.1, 200, .inl (nIf tf)))] (fun (r : Int32) (u : Unit) => r = nI (tf p0)) (fun u => [(mm, .inr (11, [.int (nI x), .ref mtx, .int po_, .ref mnu, .int fa_, .int rcl_, .int rle_, .ref mrc, .ref mrw, .ref mrl, .int cl_, .ref mki, .ref mwa, .int ls_, .ref mle, .ref mno, .ref mtr, .ref mse, .ref mba, .int ba_, .ref mim, .int km_, .int si_, .ref msi, .ref mfo, .int fm_, .ref mor, .ref mbo, .ref mma, .ref mbm, .ref mso])), (mtx, .inl (V.2.2.1, 200, .inl (nIf tf)))]) := by
  refine Ki.of [some (.ref mm), some (.int (nI p0))] (by decide) (Nat.le_of_ble_eq_true rfl) rfl rfl ?_
  intro Z X E
  have X : gX V Z RX11 cX11_letterAt 2 ({ frames := 0, cells := 0, slots := 0, locals := 0 }) := X
  refine g_iload_n X dX11_letterAt_0 rfl ?_
  refine g_aload_n X dX11_letterAt_1 rfl ?_
  refine g_get X uwX11 0 rfl rfl 0 (by decide) kl_X11_98 rfl rfl gwX11 dX11_letterAt_2 ?_
  refine g_icmp_ge X 17 dX11_letterAt_5 (by decide) (fun c5_1 => absurd c5_1 (fge (a := p0) (b := x) (by omega) (by omega) (by omega))) (fun c5_1 => ?_)
  refine g_aload_n X dX11_letterAt_8 rfl ?_
  refine g_get X uwX11 0 rfl rfl 1 (by decide) kl_X11_7 rfl rfl gwX11 dX11_letterAt_9 ?_
  refine g_iload_n X dX11_letterAt_12 rfl ?_
  refine g_iald' X 1 rfl (i := p0) rfl (by omega) (by omega) dX11_letterAt_13 ?_
  refine g_toe (nI (tf p0)) rfl ?_
  refine g_goto X 18 dX11_letterAt_14 (by decide) ?_
  exact g_iret X E dX11_letterAt_18 () (nI (tf p0)) (by first | rfl | (simp [c5_1]; done)) rfl

set_option maxHeartbeats 4000000 in
set_option maxRecDepth 100000 in
theorem c_X11_letterAt_out (V : gV) (mm : Nat) (mtx : Nat) (mnu : Nat) (mrc : Nat) (mrw : Nat) (mrl : Nat) (mki : Nat) (mwa : Nat) (mle : Nat) (mno : Nat) (mtr : Nat) (mse : Nat) (mba : Nat) (mim : Nat) (msi : Nat) (mfo : Nat) (mor : Nat) (mbo : Nat) (mma : Nat) (mbm : Nat) (mso : Nat) (x : Nat) (po_ : Int32) (fa_ : Int32) (rcl_ : Int32) (rle_ : Int32) (cl_ : Int32) (ls_ : Int32) (ba_ : Int32) (km_ : Int32) (si_ : Int32) (fm_ : Int32) (tf : Nat → Nat) (p0 : Nat) (hx : x ≤ 200) (hp0 : ¬ p0 < x) (hp1 : p0 < 1000) : Ki V yX11_letterAt cX11_letterAt 2 .int ({ frames := 0, cells := 0, slots := 0, locals := 0 }) [.ref mm, .int (nI p0)] [(mm, .inr (11, [.int (nI x), .ref mtx, .int po_, .ref mnu, .int fa_, .int rcl_, .int rle_, .ref mrc, .ref mrw, .ref mrl, .int cl_, .ref mki, .ref mwa, .int ls_, .ref mle, .ref mno, .ref mtr, .ref mse, .ref mba, .int ba_, .ref mim, .int km_, .int si_, .ref msi, .ref mfo, .int fm_, .ref mor, .ref mbo, .ref mma, .ref mbm, .ref mso])), (mtx, .inl (V.2.2.1, 200, .inl (nIf tf)))] (fun (r : Int32) (u : Unit) => r = -1) (fun u => [(mm, .inr (11, [.int (nI x), .ref mtx, .int po_, .ref mnu, .int fa_, .int rcl_, .int rle_, .ref mrc, .ref mrw, .ref mrl, .int cl_, .ref mki, .ref mwa, .int ls_, .ref mle, .ref mno, .ref mtr, .ref mse, .ref mba, .int ba_, .ref mim, .int km_, .int si_, .ref msi, .ref mfo, .int fm_, .ref mor, .ref mbo, .ref mma, .ref mbm, .ref mso])), (mtx, .inl (V.2.2.1, 200, .inl (nIf tf)))]) := by
  refine Ki.of [some (.ref mm), some (.int (nI p0))] (by decide) (Nat.le_of_ble_eq_true rfl) rfl rfl ?_
  intro Z X E
  have X : gX V Z RX11 cX11_letterAt 2 ({ frames := 0, cells := 0, slots := 0, locals := 0 }) := X
  refine g_iload_n X dX11_letterAt_0 rfl ?_
  refine g_aload_n X dX11_letterAt_1 rfl ?_
  refine g_get X uwX11 0 rfl rfl 0 (by decide) kl_X11_98 rfl rfl gwX11 dX11_letterAt_2 ?_
  refine g_icmp_ge X 17 dX11_letterAt_5 (by decide) (fun c5_1 => ?_) (fun c5_1 => absurd (tge (a := p0) (b := x) (by omega) (by omega) (by omega)) c5_1)
  refine g_iconst X (-1) dX11_letterAt_17 (by decide) ?_
  exact g_iret X E dX11_letterAt_18 () (-1) (by first | rfl | (simp [c5_1]; done)) rfl

set_option maxHeartbeats 4000000 in
set_option maxRecDepth 100000 in
theorem c_X11_isRow (V : gV) (mm : Nat) (mtx : Nat) (mnu : Nat) (mrc : Nat) (mrw : Nat) (mrl : Nat) (mki : Nat) (mwa : Nat) (mle : Nat) (mno : Nat) (mtr : Nat) (mse : Nat) (mba : Nat) (mim : Nat) (msi : Nat) (mfo : Nat) (mor : Nat) (mbo : Nat) (mma : Nat) (mbm : Nat) (mso : Nat) (x : Nat) (p : Nat) (fa_ : Int32) (rcl_ : Int32) (rle_ : Int32) (cl_ : Int32) (ls_ : Int32) (ba_ : Int32) (km_ : Int32) (si_ : Int32) (fm_ : Int32) (tf : Nat → Nat) (nuf : Nat → Nat) (mn : Nat) (hx : x ≤ 200) (hl : ∀ j, j < x → tf j < 1000) (hpx0 : p ≤ x) (hmn : 1 ≤ mn ∧ mn ≤ 3) (hnu0 : ∀ j, j < 3 → nuf j < 1000) : Ki V yX11_isRow cX11_isRow 5 .boolean ({ frames := 1, cells := 0, slots := 0, locals := 22 }) [.ref mm, .int (nI mn)] [(mm, .inr (11, [.int (nI x), .ref mtx, .int (nI p), .ref mnu, .int fa_, .int rcl_, .int rle_, .ref mrc, .ref mrw, .ref mrl, .int cl_, .ref mki, .ref mwa, .int ls_, .ref mle, .ref mno, .ref mtr, .ref mse, .ref mba, .int ba_, .ref mim, .int km_, .int si_, .ref msi, .ref mfo, .int fm_, .ref mor, .ref mbo, .ref mma, .ref mbm, .ref mso])), (mtx, .inl (V.2.2.1, 200, .inl (nIf tf))), (mnu, .inl (V.2.2.1, 3, .inl (nIf nuf)))] (fun (r : Int32) (u : Nat × (Nat → Nat)) => r = rowB (rdN tf (x - p) p 0 0 0 nuf) mn ∧ (rowB (rdN tf (x - p) p 0 0 0 nuf) mn = 1 → rdN tf (x - p) p 0 0 0 nuf = (some u.1, mn, u.2)) ∧ (∀ j, j < 3 → u.2 j < 1000)) (fun u => [(mm, .inr (11, [.int (nI x), .ref mtx, .int (nI u.1), .ref mnu, .int fa_, .int rcl_, .int rle_, .ref mrc, .ref mrw, .ref mrl, .int cl_, .ref mki, .ref mwa, .int ls_, .ref mle, .ref mno, .ref mtr, .ref mse, .ref mba, .int ba_, .ref mim, .int km_, .int si_, .ref msi, .ref mfo, .int fm_, .ref mor, .ref mbo, .ref mma, .ref mbm, .ref mso])), (mtx, .inl (V.2.2.1, 200, .inl (nIf tf))), (mnu, .inl (V.2.2.1, 3, .inl (nIf u.2)))]) := by
  refine Ki.of [some (.ref mm), some (.int (nI mn)), none, none, none] (by decide) (Nat.le_of_ble_eq_true rfl) rfl rfl ?_
  intro Z X E
  have X : gX V Z RX11 cX11_isRow 5 ({ frames := 1, cells := 0, slots := 0, locals := 22 }) := X
  refine g_iconst X (0) dX11_isRow_0 (by decide) ?_
  refine g_istore_n X (L' := [some (.ref mm), some (.int (nI mn)), some (.int 0), none, none]) dX11_isRow_1 (by decide) rfl rfl ?_
  have loop2 : ∀ (d2 i : Nat), i + d2 = mn → ∀ (p1 : Nat) (nu1 : Nat → Nat) (hp1 : p1 ≤ x) (hnu1 : ∀ j, j < 3 → nu1 j < 1000) (hrd : (i < mn → rdN tf (x - p) p 0 0 0 nuf = rdN tf (x - p1) p1 0 0 i nu1) ∧ (i = mn → rdN tf (x - p) p 0 0 0 nuf = (some p1, mn, nu1))), G V Z 5 (0, 0) [(mm, .inr (11, [.int (nI x), .ref mtx, .int (nI p1), .ref mnu, .int fa_, .int rcl_, .int rle_, .ref mrc, .ref mrw, .ref mrl, .int cl_, .ref mki, .ref mwa, .int ls_, .ref mle, .ref mno, .ref mtr, .ref mse, .ref mba, .int ba_, .ref mim, .int km_, .int si_, .ref msi, .ref mfo, .int fm_, .ref mor, .ref mbo, .ref mma, .ref mbm, .ref mso])), (mtx, .inl (V.2.2.1, 200, .inl (nIf tf))), (mnu, .inl (V.2.2.1, 3, .inl (nIf nu1)))] 2 [some (.ref mm), some (.int (nI mn)), some (.int (nI i)), none, none] [] := by
    intro d2
    induction d2 with
    | zero =>
      intro i hi p1 nu1 hp1 hnu1 hrd
      refine g_iload_n X dX11_isRow_2 rfl ?_
      refine g_iload_n X dX11_isRow_3 rfl ?_
      refine g_icmp_ge X 133 dX11_isRow_4 (by decide) (fun c4_1 => ?_) (fun c4_1 => absurd (tge (a := i) (b := mn) (by omega) (by omega) (by omega)) c4_1)
      refine g_iconst X (1) dX11_isRow_133 (by decide) ?_
      exact g_zret X E dX11_isRow_134 ⟨p1, nu1⟩ 1 (by first | rfl | exact rowB_01 _ _) ⟨(by have e : i = mn := (by omega); rw [hrd.2 e, rowB, if_pos ⟨rfl, rfl⟩]), (fun _ => hrd.2 (by omega)), hnu1⟩ rfl
    | succ d2 ih2 =>
      intro i hi p1 nu1 hp1 hnu1 hrd
      refine g_iload_n X dX11_isRow_2 rfl ?_
      refine g_iload_n X dX11_isRow_3 rfl ?_
      refine g_icmp_ge X 133 dX11_isRow_4 (by decide) (fun c4_2 => absurd c4_2 (fge (a := i) (b := mn) (by omega) (by omega) (by omega))) (fun c4_2 => ?_)
      refine g_iconst X (0) dX11_isRow_7 (by decide) ?_
      refine g_istore_n X (L' := [some (.ref mm), some (.int (nI mn)), some (.int (nI i)), some (.int 0), none]) dX11_isRow_8 (by decide) rfl rfl ?_
      refine g_aload_n X dX11_isRow_9 rfl ?_
      refine g_get X uwX11 0 rfl rfl 2 (by decide) kl_X11_101 rfl rfl gwX11 dX11_isRow_10 ?_
      refine g_istore X (L' := [some (.ref mm), some (.int (nI mn)), some (.int (nI i)), some (.int 0), some (.int (nI p1))]) dX11_isRow_13 (by decide) rfl rfl ?_
      have loop15_3 : ∀ (d15 : Nat) (num : Nat) (p2 : Nat) (hp2 : p1 ≤ p2 ∧ p2 ≤ p1 + 3 ∧ p2 ≤ x) (hnm : (p2 = p1 → num = 0) ∧ (p2 = p1 + 1 → num ≤ 9) ∧ (p2 = p1 + 2 → num ≤ 99) ∧ num ≤ 999) (hrd2 : rdN tf (x - p) p 0 0 0 nuf = rdN tf (x - p2) p2 (p2 - p1) num i nu1), p1 + 3 - p2 < d15 → G V Z 5 (0, 0) [(mm, .inr (11, [.int (nI x), .ref mtx, .int (nI p2), .ref mnu, .int fa_, .int rcl_, .int rle_, .ref mrc, .ref mrw, .ref mrl, .int cl_, .ref mki, .ref mwa, .int ls_, .ref mle, .ref mno, .ref mtr, .ref mse, .ref mba, .int ba_, .ref mim, .int km_, .int si_, .ref msi, .ref mfo, .int fm_, .ref mor, .ref mbo, .ref mma, .ref mbm, .ref mso])), (mtx, .inl (V.2.2.1, 200, .inl (nIf tf))), (mnu, .inl (V.2.2.1, 3, .inl (nIf nu1)))] 15 [some (.ref mm), some (.int (nI mn)), some (.int (nI i)), some (.int (nI num)), some (.int (nI p1))] [] := by
        intro d15
        induction d15 with
        | zero => intro num p2 hp2 hnm hrd2 hmu; exact absurd hmu (Nat.not_lt_zero _)
        | succ d15 ih15 =>
          intro num p2 hp2 hnm hrd2 hmu
          refine g_aload_n X dX11_isRow_15 rfl ?_
          refine g_get X uwX11 0 rfl rfl 2 (by decide) kl_X11_101 rfl rfl gwX11 dX11_isRow_16 ?_
          refine g_iload X dX11_isRow_19 rfl ?_
          refine g_iconst X (3) dX11_isRow_21 (by decide) ?_
          refine g_iadd X dX11_isRow_22 ?_
          refine g_toe (x' := nI (p1 + 3)) (nI_add' rfl rfl) ?_
          refine g_icmp_ge X 74 dX11_isRow_23 (by decide) (fun c23_4 => ?_) (fun c23_4 => ?_)
          · have c23_4n := ige' (a := p2) (b := p1 + 3) c23_4 (by omega) (by omega)
            refine g_aload_n X dX11_isRow_74 rfl ?_
            refine g_get X uwX11 0 rfl rfl 2 (by decide) kl_X11_101 rfl rfl gwX11 dX11_isRow_75 ?_
            refine g_iload X dX11_isRow_78 rfl ?_
            refine g_icmp_eq X 108 dX11_isRow_80 (by decide) (fun c80_5 => ?_) (fun c80_5 => ?_)
            · have c80_5n := ieq' (a := p2) (b := p1) c80_5 (by omega) (by omega)
              exact absurd c80_5n (by omega)
            · have c80_5n := ine' (a := p2) (b := p1) c80_5 (by omega) (by omega)
              refine g_aload_n X dX11_isRow_83 rfl ?_
              refine g_aload_n X dX11_isRow_84 rfl ?_
              refine g_get X uwX11 0 rfl rfl 2 (by decide) kl_X11_101 rfl rfl gwX11 dX11_isRow_85 ?_
              by_cases hpy : p2 < x
              · refine g_callVi X (c_X11_letterAt_in V mm mtx mnu mrc mrw mrl mki mwa mle mno mtr mse mba mim msi mfo mor mbo mma mbm mso x (nI p2) fa_ rcl_ rle_ cl_ ls_ ba_ km_ si_ fm_ tf p2 (by omega) hpy) mo_X11_letterAt kl_X11_104 [0, 1] [1, 2, 0] rfl (by decide +kernel) rfl rfl (fun _ => Nat.le_of_ble_eq_true rfl) 0 11 rfl rfl (As := [.int (nI p2)]) (st := []) (cs' := (0, 0)) rfl rfl rfl rfl dX11_isRow_88 (fun r_10 u_6 hp_7 ws_9 hw_8 => ?_)
                obtain rfl : r_10 = nI (tf p2) := hp_7
                have hw_8x : ws_9 = [(mm, .inr (11, [.int (nI x), .ref mtx, .int (nI p2), .ref mnu, .int fa_, .int rcl_, .int rle_, .ref mrc, .ref mrw, .ref mrl, .int cl_, .ref mki, .ref mwa, .int ls_, .ref mle, .ref mno, .ref mtr, .ref mse, .ref mba, .int ba_, .ref mim, .int km_, .int si_, .ref msi, .ref mfo, .int fm_, .ref mor, .ref mbo, .ref mma, .ref mbm, .ref mso])), (mtx, .inl (V.2.2.1, 200, .inl (nIf tf))), (mnu, .inl (V.2.2.1, 3, .inl (nIf nu1)))] := hw_8.symm
                clear hw_8; subst hw_8x
                have hlt := hl p2 (by omega)
                refine g_iload_n X dX11_isRow_91 rfl ?_
                refine g_iload_n X dX11_isRow_92 rfl ?_
                refine g_iconst X (1) dX11_isRow_93 (by decide) ?_
                refine g_isub X dX11_isRow_94 ?_
                refine g_toe (x' := nI (mn - 1)) (nI_sub' rfl rfl (by omega)) ?_
                refine g_icmp_ne X 103 dX11_isRow_95 (by decide) (fun c95_11 => ?_) (fun c95_11 => ?_)
                · have c95_11n := ine' (a := i) (b := mn - 1) c95_11 (by omega) (by omega)
                  refine g_bipush X (44) dX11_isRow_103 (by decide) ?_
                  refine g_icmp_eq X 110 dX11_isRow_105 (by decide) (fun c105_12 => ?_) (fun c105_12 => ?_)
                  · have c105_12n := ieq' (a := tf p2) (b := 44) c105_12 (by omega) (by omega)
                    refine g_aload_n X dX11_isRow_110 rfl ?_
                    refine g_dup X dX11_isRow_111 rfl ?_
                    refine g_get X uwX11 0 rfl rfl 2 (by decide) kl_X11_101 rfl rfl gwX11 dX11_isRow_112 ?_
                    refine g_iconst X (1) dX11_isRow_115 (by decide) ?_
                    refine g_iadd X dX11_isRow_116 ?_
                    refine g_toe (x' := nI (p2 + 1)) (nI_add' rfl rfl) ?_
                    refine g_put X uwX11 tyX11 tyX11_ok nmX11 0 rfl rfl 2 (by decide) kl_X11_101 rfl rfl rfl rfl (Nat.le_of_ble_eq_true rfl) gwX11 (ws' := [(mm, .inr (11, [.int (nI x), .ref mtx, .int (nI (p2 + 1)), .ref mnu, .int fa_, .int rcl_, .int rle_, .ref mrc, .ref mrw, .ref mrl, .int cl_, .ref mki, .ref mwa, .int ls_, .ref mle, .ref mno, .ref mtr, .ref mse, .ref mba, .int ba_, .ref mim, .int km_, .int si_, .ref msi, .ref mfo, .int fm_, .ref mor, .ref mbo, .ref mma, .ref mbm, .ref mso])), (mtx, .inl (V.2.2.1, 200, .inl (nIf tf))), (mnu, .inl (V.2.2.1, 3, .inl (nIf nu1)))]) rfl dX11_isRow_117 ?_
                    have hlt2 := hnu1
                    refine g_aload_n X dX11_isRow_120 rfl ?_
                    refine g_get X uwX11 0 rfl rfl 3 (by decide) kl_X11_13 rfl rfl gwX11 dX11_isRow_121 ?_
                    refine g_iload_n X dX11_isRow_124 rfl ?_
                    refine g_iload_n X dX11_isRow_125 rfl ?_
                    refine g_iast' X 2 rfl (i := i) rfl (by omega) (by omega) (ws' := [(mm, .inr (11, [.int (nI x), .ref mtx, .int (nI (p2 + 1)), .ref mnu, .int fa_, .int rcl_, .int rle_, .ref mrc, .ref mrw, .ref mrl, .int cl_, .ref mki, .ref mwa, .int ls_, .ref mle, .ref mno, .ref mtr, .ref mse, .ref mba, .int ba_, .ref mim, .int km_, .int si_, .ref msi, .ref mfo, .int fm_, .ref mor, .ref mbo, .ref mma, .ref mbm, .ref mso])), (mtx, .inl (V.2.2.1, 200, .inl (nIf tf))), (mnu, .inl (V.2.2.1, 3, .inl (upd (nIf nu1) i (nI num))))]) rfl dX11_isRow_126 ?_
                    refine g_arr 2 (nIf (updN nu1 i num)) rfl (fun j _ => updN_eq nu1 i num j) (ws' := [(mm, .inr (11, [.int (nI x), .ref mtx, .int (nI (p2 + 1)), .ref mnu, .int fa_, .int rcl_, .int rle_, .ref mrc, .ref mrw, .ref mrl, .int cl_, .ref mki, .ref mwa, .int ls_, .ref mle, .ref mno, .ref mtr, .ref mse, .ref mba, .int ba_, .ref mim, .int km_, .int si_, .ref msi, .ref mfo, .int fm_, .ref mor, .ref mbo, .ref mma, .ref mbm, .ref mso])), (mtx, .inl (V.2.2.1, 200, .inl (nIf tf))), (mnu, .inl (V.2.2.1, 3, .inl (nIf (updN nu1 i num))))]) rfl ?_
                    refine g_iinc X (v := nI (i + 1)) (L' := [some (.ref mm), some (.int (nI mn)), some (.int (nI (i + 1))), some (.int (nI num)), some (.int (nI p1))]) dX11_isRow_127 rfl (nI_addk (by decide)) (by decide) rfl rfl ?_
                    refine g_goto X 2 dX11_isRow_130 (by decide) ?_
                    refine g_sub (L' := [some (.ref mm), some (.int (nI mn)), some (.int (nI (i + 1))), none, none]) ⟨rfl, ⟨rfl, ⟨rfl, trivial⟩⟩⟩ ?_
                    exact ih2 (i + 1) (by omega) (p2 + 1) (updN nu1 i num) (by omega) (fun j hj => by rw [updN]; split; omega; exact hnu1 j hj) ⟨fun z => by rw [hrd2, row_sep hpy (by omega) (by omega) (by omega)], fun z => absurd z (by omega)⟩
                  · have c105_12n := ine' (a := tf p2) (b := 44) c105_12 (by omega) (by omega)
                    refine g_iconst X (0) dX11_isRow_108 (by decide) ?_
                    exact g_zret X E dX11_isRow_109 ⟨p2, nu1⟩ 0 (by first | rfl | exact rowB_01 _ _) ⟨(by rw [hrd2]; exact (row_no hpy (Or.inr (by omega)) (by omega) (by rw [if_neg (by omega)]; exact c105_12n)).symm), (fun z => absurd ((show (0 : Int32) = rowB (rdN tf (x - p) p 0 0 0 nuf) mn from (by rw [hrd2]; exact (row_no hpy (Or.inr (by omega)) (by omega) (by rw [if_neg (by omega)]; exact c105_12n)).symm)).trans z) (by decide)), hnu1⟩ rfl
                · have c95_11n := ieq' (a := i) (b := mn - 1) c95_11 (by omega) (by omega)
                  refine g_bipush X (59) dX11_isRow_98 (by decide) ?_
                  refine g_goto X 105 dX11_isRow_100 (by decide) ?_
                  refine g_icmp_eq X 110 dX11_isRow_105 (by decide) (fun c105_13 => ?_) (fun c105_13 => ?_)
                  · have c105_13n := ieq' (a := tf p2) (b := 59) c105_13 (by omega) (by omega)
                    refine g_aload_n X dX11_isRow_110 rfl ?_
                    refine g_dup X dX11_isRow_111 rfl ?_
                    refine g_get X uwX11 0 rfl rfl 2 (by decide) kl_X11_101 rfl rfl gwX11 dX11_isRow_112 ?_
                    refine g_iconst X (1) dX11_isRow_115 (by decide) ?_
                    refine g_iadd X dX11_isRow_116 ?_
                    refine g_toe (x' := nI (p2 + 1)) (nI_add' rfl rfl) ?_
                    refine g_put X uwX11 tyX11 tyX11_ok nmX11 0 rfl rfl 2 (by decide) kl_X11_101 rfl rfl rfl rfl (Nat.le_of_ble_eq_true rfl) gwX11 (ws' := [(mm, .inr (11, [.int (nI x), .ref mtx, .int (nI (p2 + 1)), .ref mnu, .int fa_, .int rcl_, .int rle_, .ref mrc, .ref mrw, .ref mrl, .int cl_, .ref mki, .ref mwa, .int ls_, .ref mle, .ref mno, .ref mtr, .ref mse, .ref mba, .int ba_, .ref mim, .int km_, .int si_, .ref msi, .ref mfo, .int fm_, .ref mor, .ref mbo, .ref mma, .ref mbm, .ref mso])), (mtx, .inl (V.2.2.1, 200, .inl (nIf tf))), (mnu, .inl (V.2.2.1, 3, .inl (nIf nu1)))]) rfl dX11_isRow_117 ?_
                    have hlt2 := hnu1
                    refine g_aload_n X dX11_isRow_120 rfl ?_
                    refine g_get X uwX11 0 rfl rfl 3 (by decide) kl_X11_13 rfl rfl gwX11 dX11_isRow_121 ?_
                    refine g_iload_n X dX11_isRow_124 rfl ?_
                    refine g_iload_n X dX11_isRow_125 rfl ?_
                    refine g_iast' X 2 rfl (i := i) rfl (by omega) (by omega) (ws' := [(mm, .inr (11, [.int (nI x), .ref mtx, .int (nI (p2 + 1)), .ref mnu, .int fa_, .int rcl_, .int rle_, .ref mrc, .ref mrw, .ref mrl, .int cl_, .ref mki, .ref mwa, .int ls_, .ref mle, .ref mno, .ref mtr, .ref mse, .ref mba, .int ba_, .ref mim, .int km_, .int si_, .ref msi, .ref mfo, .int fm_, .ref mor, .ref mbo, .ref mma, .ref mbm, .ref mso])), (mtx, .inl (V.2.2.1, 200, .inl (nIf tf))), (mnu, .inl (V.2.2.1, 3, .inl (upd (nIf nu1) i (nI num))))]) rfl dX11_isRow_126 ?_
                    refine g_arr 2 (nIf (updN nu1 i num)) rfl (fun j _ => updN_eq nu1 i num j) (ws' := [(mm, .inr (11, [.int (nI x), .ref mtx, .int (nI (p2 + 1)), .ref mnu, .int fa_, .int rcl_, .int rle_, .ref mrc, .ref mrw, .ref mrl, .int cl_, .ref mki, .ref mwa, .int ls_, .ref mle, .ref mno, .ref mtr, .ref mse, .ref mba, .int ba_, .ref mim, .int km_, .int si_, .ref msi, .ref mfo, .int fm_, .ref mor, .ref mbo, .ref mma, .ref mbm, .ref mso])), (mtx, .inl (V.2.2.1, 200, .inl (nIf tf))), (mnu, .inl (V.2.2.1, 3, .inl (nIf (updN nu1 i num))))]) rfl ?_
                    refine g_iinc X (v := nI (i + 1)) (L' := [some (.ref mm), some (.int (nI mn)), some (.int (nI (i + 1))), some (.int (nI num)), some (.int (nI p1))]) dX11_isRow_127 rfl (nI_addk (by decide)) (by decide) rfl rfl ?_
                    refine g_goto X 2 dX11_isRow_130 (by decide) ?_
                    refine g_sub (L' := [some (.ref mm), some (.int (nI mn)), some (.int (nI (i + 1))), none, none]) ⟨rfl, ⟨rfl, ⟨rfl, trivial⟩⟩⟩ ?_
                    exact ih2 (i + 1) (by omega) (p2 + 1) (updN nu1 i num) (by omega) (fun j hj => by rw [updN]; split; omega; exact hnu1 j hj) ⟨fun z => absurd z (by omega), fun z => by rw [hrd2, row_fin hpy (by omega) (by omega) (by omega), show i + 1 = mn by omega]⟩
                  · have c105_13n := ine' (a := tf p2) (b := 59) c105_13 (by omega) (by omega)
                    refine g_iconst X (0) dX11_isRow_108 (by decide) ?_
                    exact g_zret X E dX11_isRow_109 ⟨p2, nu1⟩ 0 (by first | rfl | exact rowB_01 _ _) ⟨(by rw [hrd2]; exact (row_no hpy (Or.inr (by omega)) (by omega) (by rw [if_pos (by omega)]; exact c105_13n)).symm), (fun z => absurd ((show (0 : Int32) = rowB (rdN tf (x - p) p 0 0 0 nuf) mn from (by rw [hrd2]; exact (row_no hpy (Or.inr (by omega)) (by omega) (by rw [if_pos (by omega)]; exact c105_13n)).symm)).trans z) (by decide)), hnu1⟩ rfl
              · refine g_callVi X (c_X11_letterAt_out V mm mtx mnu mrc mrw mrl mki mwa mle mno mtr mse mba mim msi mfo mor mbo mma mbm mso x (nI p2) fa_ rcl_ rle_ cl_ ls_ ba_ km_ si_ fm_ tf p2 (by omega) hpy (by omega)) mo_X11_letterAt kl_X11_104 [0, 1] [1, 2, 0] rfl (by decide +kernel) rfl rfl (fun _ => Nat.le_of_ble_eq_true rfl) 0 11 rfl rfl (As := [.int (nI p2)]) (st := []) (cs' := (0, 0)) rfl rfl rfl rfl dX11_isRow_88 (fun r_18 u_14 hp_15 ws_17 hw_16 => ?_)
                obtain rfl : r_18 = -1 := hp_15
                have hw_16x : ws_17 = [(mm, .inr (11, [.int (nI x), .ref mtx, .int (nI p2), .ref mnu, .int fa_, .int rcl_, .int rle_, .ref mrc, .ref mrw, .ref mrl, .int cl_, .ref mki, .ref mwa, .int ls_, .ref mle, .ref mno, .ref mtr, .ref mse, .ref mba, .int ba_, .ref mim, .int km_, .int si_, .ref msi, .ref mfo, .int fm_, .ref mor, .ref mbo, .ref mma, .ref mbm, .ref mso])), (mtx, .inl (V.2.2.1, 200, .inl (nIf tf))), (mnu, .inl (V.2.2.1, 3, .inl (nIf nu1)))] := hw_16.symm
                clear hw_16; subst hw_16x
                refine g_iload_n X dX11_isRow_91 rfl ?_
                refine g_iload_n X dX11_isRow_92 rfl ?_
                refine g_iconst X (1) dX11_isRow_93 (by decide) ?_
                refine g_isub X dX11_isRow_94 ?_
                refine g_toe (x' := nI (mn - 1)) (nI_sub' rfl rfl (by omega)) ?_
                refine g_icmp_ne X 103 dX11_isRow_95 (by decide) (fun c95_19 => ?_) (fun c95_19 => ?_)
                · have c95_19n := ine' (a := i) (b := mn - 1) c95_19 (by omega) (by omega)
                  refine g_bipush X (44) dX11_isRow_103 (by decide) ?_
                  refine g_icmp_eq X 110 dX11_isRow_105 (by decide) (fun c105_20 => absurd c105_20 (by decide)) (fun c105_20 => ?_)
                  refine g_iconst X (0) dX11_isRow_108 (by decide) ?_
                  exact g_zret X E dX11_isRow_109 ⟨p2, nu1⟩ 0 (by first | rfl | exact rowB_01 _ _) ⟨(by rw [hrd2]; exact (row_out hpy).symm), (fun z => absurd ((show (0 : Int32) = rowB (rdN tf (x - p) p 0 0 0 nuf) mn from (by rw [hrd2]; exact (row_out hpy).symm)).trans z) (by decide)), hnu1⟩ rfl
                · have c95_19n := ieq' (a := i) (b := mn - 1) c95_19 (by omega) (by omega)
                  refine g_bipush X (59) dX11_isRow_98 (by decide) ?_
                  refine g_goto X 105 dX11_isRow_100 (by decide) ?_
                  refine g_icmp_eq X 110 dX11_isRow_105 (by decide) (fun c105_21 => absurd c105_21 (by decide)) (fun c105_21 => ?_)
                  refine g_iconst X (0) dX11_isRow_108 (by decide) ?_
                  exact g_zret X E dX11_isRow_109 ⟨p2, nu1⟩ 0 (by first | rfl | exact rowB_01 _ _) ⟨(by rw [hrd2]; exact (row_out hpy).symm), (fun z => absurd ((show (0 : Int32) = rowB (rdN tf (x - p) p 0 0 0 nuf) mn from (by rw [hrd2]; exact (row_out hpy).symm)).trans z) (by decide)), hnu1⟩ rfl
          · have c23_4n := inge' (a := p2) (b := p1 + 3) c23_4 (by omega) (by omega)
            refine g_aload_n X dX11_isRow_26 rfl ?_
            refine g_aload_n X dX11_isRow_27 rfl ?_
            refine g_get X uwX11 0 rfl rfl 2 (by decide) kl_X11_101 rfl rfl gwX11 dX11_isRow_28 ?_
            by_cases hpx : p2 < x
            · refine g_callVi X (c_X11_letterAt_in V mm mtx mnu mrc mrw mrl mki mwa mle mno mtr mse mba mim msi mfo mor mbo mma mbm mso x (nI p2) fa_ rcl_ rle_ cl_ ls_ ba_ km_ si_ fm_ tf p2 (by omega) hpx) mo_X11_letterAt kl_X11_104 [0, 1] [1, 2, 0] rfl (by decide +kernel) rfl rfl (fun _ => Nat.le_of_ble_eq_true rfl) 0 11 rfl rfl (As := [.int (nI p2)]) (st := []) (cs' := (0, 0)) rfl rfl rfl rfl dX11_isRow_31 (fun r_26 u_22 hp_23 ws_25 hw_24 => ?_)
              obtain rfl : r_26 = nI (tf p2) := hp_23
              have hw_24x : ws_25 = [(mm, .inr (11, [.int (nI x), .ref mtx, .int (nI p2), .ref mnu, .int fa_, .int rcl_, .int rle_, .ref mrc, .ref mrw, .ref mrl, .int cl_, .ref mki, .ref mwa, .int ls_, .ref mle, .ref mno, .ref mtr, .ref mse, .ref mba, .int ba_, .ref mim, .int km_, .int si_, .ref msi, .ref mfo, .int fm_, .ref mor, .ref mbo, .ref mma, .ref mbm, .ref mso])), (mtx, .inl (V.2.2.1, 200, .inl (nIf tf))), (mnu, .inl (V.2.2.1, 3, .inl (nIf nu1)))] := hw_24.symm
              clear hw_24; subst hw_24x
              refine g_bipush X (48) dX11_isRow_34 (by decide) ?_
              refine g_bipush X (57) dX11_isRow_36 (by decide) ?_
              refine g_callSi X (c_X11_in V (nI (tf p2)) 48 57) mo_X11_in kl_X11_94 [] [0, 0, 0] rfl (by decide +kernel) rfl rfl (fun _ => Nat.le_of_ble_eq_true rfl) (As := [.int (nI (tf p2)), .int 48, .int 57]) (st := []) (cs' := (0, 0)) rfl rfl rfl dX11_isRow_38 (fun r_31 u_27 hp_28 ws_30 hw_29 => ?_)
              obtain rfl : r_31 = inF (nI (tf p2)) 48 57 := hp_28
              have hw_29x : ws_30 = [(mm, .inr (11, [.int (nI x), .ref mtx, .int (nI p2), .ref mnu, .int fa_, .int rcl_, .int rle_, .ref mrc, .ref mrw, .ref mrl, .int cl_, .ref mki, .ref mwa, .int ls_, .ref mle, .ref mno, .ref mtr, .ref mse, .ref mba, .int ba_, .ref mim, .int km_, .int si_, .ref msi, .ref mfo, .int fm_, .ref mor, .ref mbo, .ref mma, .ref mbm, .ref mso])), (mtx, .inl (V.2.2.1, 200, .inl (nIf tf))), (mnu, .inl (V.2.2.1, 3, .inl (nIf nu1)))] := hw_29.symm
              clear hw_29; subst hw_29x
              refine g_if_eq X 74 dX11_isRow_41 (by decide) (fun c41_32 => ?_) (fun c41_32 => ?_)
              · refine g_aload_n X dX11_isRow_74 rfl ?_
                refine g_get X uwX11 0 rfl rfl 2 (by decide) kl_X11_101 rfl rfl gwX11 dX11_isRow_75 ?_
                refine g_iload X dX11_isRow_78 rfl ?_
                refine g_icmp_eq X 108 dX11_isRow_80 (by decide) (fun c80_33 => ?_) (fun c80_33 => ?_)
                · have c80_33n := ieq' (a := p2) (b := p1) c80_33 (by omega) (by omega)
                  refine g_iconst X (0) dX11_isRow_108 (by decide) ?_
                  exact g_zret X E dX11_isRow_109 ⟨p2, nu1⟩ 0 (by first | rfl | exact rowB_01 _ _) ⟨(by rw [hrd2, show p2 - p1 = 0 by omega]; exact (row_0 (fun _ => dig_0 (hl p2 (by omega)) c41_32)).symm), (fun z => absurd ((show (0 : Int32) = rowB (rdN tf (x - p) p 0 0 0 nuf) mn from (by rw [hrd2, show p2 - p1 = 0 by omega]; exact (row_0 (fun _ => dig_0 (hl p2 (by omega)) c41_32)).symm)).trans z) (by decide)), hnu1⟩ rfl
                · have c80_33n := ine' (a := p2) (b := p1) c80_33 (by omega) (by omega)
                  refine g_aload_n X dX11_isRow_83 rfl ?_
                  refine g_aload_n X dX11_isRow_84 rfl ?_
                  refine g_get X uwX11 0 rfl rfl 2 (by decide) kl_X11_101 rfl rfl gwX11 dX11_isRow_85 ?_
                  refine g_callVi X (c_X11_letterAt_in V mm mtx mnu mrc mrw mrl mki mwa mle mno mtr mse mba mim msi mfo mor mbo mma mbm mso x (nI p2) fa_ rcl_ rle_ cl_ ls_ ba_ km_ si_ fm_ tf p2 (by omega) hpx) mo_X11_letterAt kl_X11_104 [0, 1] [1, 2, 0] rfl (by decide +kernel) rfl rfl (fun _ => Nat.le_of_ble_eq_true rfl) 0 11 rfl rfl (As := [.int (nI p2)]) (st := []) (cs' := (0, 0)) rfl rfl rfl rfl dX11_isRow_88 (fun r_38 u_34 hp_35 ws_37 hw_36 => ?_)
                  obtain rfl : r_38 = nI (tf p2) := hp_35
                  have hw_36x : ws_37 = [(mm, .inr (11, [.int (nI x), .ref mtx, .int (nI p2), .ref mnu, .int fa_, .int rcl_, .int rle_, .ref mrc, .ref mrw, .ref mrl, .int cl_, .ref mki, .ref mwa, .int ls_, .ref mle, .ref mno, .ref mtr, .ref mse, .ref mba, .int ba_, .ref mim, .int km_, .int si_, .ref msi, .ref mfo, .int fm_, .ref mor, .ref mbo, .ref mma, .ref mbm, .ref mso])), (mtx, .inl (V.2.2.1, 200, .inl (nIf tf))), (mnu, .inl (V.2.2.1, 3, .inl (nIf nu1)))] := hw_36.symm
                  clear hw_36; subst hw_36x
                  have hlt := hl p2 (by omega)
                  refine g_iload_n X dX11_isRow_91 rfl ?_
                  refine g_iload_n X dX11_isRow_92 rfl ?_
                  refine g_iconst X (1) dX11_isRow_93 (by decide) ?_
                  refine g_isub X dX11_isRow_94 ?_
                  refine g_toe (x' := nI (mn - 1)) (nI_sub' rfl rfl (by omega)) ?_
                  refine g_icmp_ne X 103 dX11_isRow_95 (by decide) (fun c95_39 => ?_) (fun c95_39 => ?_)
                  · have c95_39n := ine' (a := i) (b := mn - 1) c95_39 (by omega) (by omega)
                    refine g_bipush X (44) dX11_isRow_103 (by decide) ?_
                    refine g_icmp_eq X 110 dX11_isRow_105 (by decide) (fun c105_40 => ?_) (fun c105_40 => ?_)
                    · have c105_40n := ieq' (a := tf p2) (b := 44) c105_40 (by omega) (by omega)
                      refine g_aload_n X dX11_isRow_110 rfl ?_
                      refine g_dup X dX11_isRow_111 rfl ?_
                      refine g_get X uwX11 0 rfl rfl 2 (by decide) kl_X11_101 rfl rfl gwX11 dX11_isRow_112 ?_
                      refine g_iconst X (1) dX11_isRow_115 (by decide) ?_
                      refine g_iadd X dX11_isRow_116 ?_
                      refine g_toe (x' := nI (p2 + 1)) (nI_add' rfl rfl) ?_
                      refine g_put X uwX11 tyX11 tyX11_ok nmX11 0 rfl rfl 2 (by decide) kl_X11_101 rfl rfl rfl rfl (Nat.le_of_ble_eq_true rfl) gwX11 (ws' := [(mm, .inr (11, [.int (nI x), .ref mtx, .int (nI (p2 + 1)), .ref mnu, .int fa_, .int rcl_, .int rle_, .ref mrc, .ref mrw, .ref mrl, .int cl_, .ref mki, .ref mwa, .int ls_, .ref mle, .ref mno, .ref mtr, .ref mse, .ref mba, .int ba_, .ref mim, .int km_, .int si_, .ref msi, .ref mfo, .int fm_, .ref mor, .ref mbo, .ref mma, .ref mbm, .ref mso])), (mtx, .inl (V.2.2.1, 200, .inl (nIf tf))), (mnu, .inl (V.2.2.1, 3, .inl (nIf nu1)))]) rfl dX11_isRow_117 ?_
                      have hlt2 := hnu1
                      refine g_aload_n X dX11_isRow_120 rfl ?_
                      refine g_get X uwX11 0 rfl rfl 3 (by decide) kl_X11_13 rfl rfl gwX11 dX11_isRow_121 ?_
                      refine g_iload_n X dX11_isRow_124 rfl ?_
                      refine g_iload_n X dX11_isRow_125 rfl ?_
                      refine g_iast' X 2 rfl (i := i) rfl (by omega) (by omega) (ws' := [(mm, .inr (11, [.int (nI x), .ref mtx, .int (nI (p2 + 1)), .ref mnu, .int fa_, .int rcl_, .int rle_, .ref mrc, .ref mrw, .ref mrl, .int cl_, .ref mki, .ref mwa, .int ls_, .ref mle, .ref mno, .ref mtr, .ref mse, .ref mba, .int ba_, .ref mim, .int km_, .int si_, .ref msi, .ref mfo, .int fm_, .ref mor, .ref mbo, .ref mma, .ref mbm, .ref mso])), (mtx, .inl (V.2.2.1, 200, .inl (nIf tf))), (mnu, .inl (V.2.2.1, 3, .inl (upd (nIf nu1) i (nI num))))]) rfl dX11_isRow_126 ?_
                      refine g_arr 2 (nIf (updN nu1 i num)) rfl (fun j _ => updN_eq nu1 i num j) (ws' := [(mm, .inr (11, [.int (nI x), .ref mtx, .int (nI (p2 + 1)), .ref mnu, .int fa_, .int rcl_, .int rle_, .ref mrc, .ref mrw, .ref mrl, .int cl_, .ref mki, .ref mwa, .int ls_, .ref mle, .ref mno, .ref mtr, .ref mse, .ref mba, .int ba_, .ref mim, .int km_, .int si_, .ref msi, .ref mfo, .int fm_, .ref mor, .ref mbo, .ref mma, .ref mbm, .ref mso])), (mtx, .inl (V.2.2.1, 200, .inl (nIf tf))), (mnu, .inl (V.2.2.1, 3, .inl (nIf (updN nu1 i num))))]) rfl ?_
                      refine g_iinc X (v := nI (i + 1)) (L' := [some (.ref mm), some (.int (nI mn)), some (.int (nI (i + 1))), some (.int (nI num)), some (.int (nI p1))]) dX11_isRow_127 rfl (nI_addk (by decide)) (by decide) rfl rfl ?_
                      refine g_goto X 2 dX11_isRow_130 (by decide) ?_
                      refine g_sub (L' := [some (.ref mm), some (.int (nI mn)), some (.int (nI (i + 1))), none, none]) ⟨rfl, ⟨rfl, ⟨rfl, trivial⟩⟩⟩ ?_
                      exact ih2 (i + 1) (by omega) (p2 + 1) (updN nu1 i num) (by omega) (fun j hj => by rw [updN]; split; omega; exact hnu1 j hj) ⟨fun z => by rw [hrd2, row_sep hpx (by omega) (by omega) (by omega)], fun z => absurd z (by omega)⟩
                    · have c105_40n := ine' (a := tf p2) (b := 44) c105_40 (by omega) (by omega)
                      refine g_iconst X (0) dX11_isRow_108 (by decide) ?_
                      exact g_zret X E dX11_isRow_109 ⟨p2, nu1⟩ 0 (by first | rfl | exact rowB_01 _ _) ⟨(by rw [hrd2]; exact (row_no hpx (Or.inl (dig_0 (hl p2 (by omega)) c41_32)) (by omega) (by rw [if_neg (by omega)]; exact c105_40n)).symm), (fun z => absurd ((show (0 : Int32) = rowB (rdN tf (x - p) p 0 0 0 nuf) mn from (by rw [hrd2]; exact (row_no hpx (Or.inl (dig_0 (hl p2 (by omega)) c41_32)) (by omega) (by rw [if_neg (by omega)]; exact c105_40n)).symm)).trans z) (by decide)), hnu1⟩ rfl
                  · have c95_39n := ieq' (a := i) (b := mn - 1) c95_39 (by omega) (by omega)
                    refine g_bipush X (59) dX11_isRow_98 (by decide) ?_
                    refine g_goto X 105 dX11_isRow_100 (by decide) ?_
                    refine g_icmp_eq X 110 dX11_isRow_105 (by decide) (fun c105_41 => ?_) (fun c105_41 => ?_)
                    · have c105_41n := ieq' (a := tf p2) (b := 59) c105_41 (by omega) (by omega)
                      refine g_aload_n X dX11_isRow_110 rfl ?_
                      refine g_dup X dX11_isRow_111 rfl ?_
                      refine g_get X uwX11 0 rfl rfl 2 (by decide) kl_X11_101 rfl rfl gwX11 dX11_isRow_112 ?_
                      refine g_iconst X (1) dX11_isRow_115 (by decide) ?_
                      refine g_iadd X dX11_isRow_116 ?_
                      refine g_toe (x' := nI (p2 + 1)) (nI_add' rfl rfl) ?_
                      refine g_put X uwX11 tyX11 tyX11_ok nmX11 0 rfl rfl 2 (by decide) kl_X11_101 rfl rfl rfl rfl (Nat.le_of_ble_eq_true rfl) gwX11 (ws' := [(mm, .inr (11, [.int (nI x), .ref mtx, .int (nI (p2 + 1)), .ref mnu, .int fa_, .int rcl_, .int rle_, .ref mrc, .ref mrw, .ref mrl, .int cl_, .ref mki, .ref mwa, .int ls_, .ref mle, .ref mno, .ref mtr, .ref mse, .ref mba, .int ba_, .ref mim, .int km_, .int si_, .ref msi, .ref mfo, .int fm_, .ref mor, .ref mbo, .ref mma, .ref mbm, .ref mso])), (mtx, .inl (V.2.2.1, 200, .inl (nIf tf))), (mnu, .inl (V.2.2.1, 3, .inl (nIf nu1)))]) rfl dX11_isRow_117 ?_
                      have hlt2 := hnu1
                      refine g_aload_n X dX11_isRow_120 rfl ?_
                      refine g_get X uwX11 0 rfl rfl 3 (by decide) kl_X11_13 rfl rfl gwX11 dX11_isRow_121 ?_
                      refine g_iload_n X dX11_isRow_124 rfl ?_
                      refine g_iload_n X dX11_isRow_125 rfl ?_
                      refine g_iast' X 2 rfl (i := i) rfl (by omega) (by omega) (ws' := [(mm, .inr (11, [.int (nI x), .ref mtx, .int (nI (p2 + 1)), .ref mnu, .int fa_, .int rcl_, .int rle_, .ref mrc, .ref mrw, .ref mrl, .int cl_, .ref mki, .ref mwa, .int ls_, .ref mle, .ref mno, .ref mtr, .ref mse, .ref mba, .int ba_, .ref mim, .int km_, .int si_, .ref msi, .ref mfo, .int fm_, .ref mor, .ref mbo, .ref mma, .ref mbm, .ref mso])), (mtx, .inl (V.2.2.1, 200, .inl (nIf tf))), (mnu, .inl (V.2.2.1, 3, .inl (upd (nIf nu1) i (nI num))))]) rfl dX11_isRow_126 ?_
                      refine g_arr 2 (nIf (updN nu1 i num)) rfl (fun j _ => updN_eq nu1 i num j) (ws' := [(mm, .inr (11, [.int (nI x), .ref mtx, .int (nI (p2 + 1)), .ref mnu, .int fa_, .int rcl_, .int rle_, .ref mrc, .ref mrw, .ref mrl, .int cl_, .ref mki, .ref mwa, .int ls_, .ref mle, .ref mno, .ref mtr, .ref mse, .ref mba, .int ba_, .ref mim, .int km_, .int si_, .ref msi, .ref mfo, .int fm_, .ref mor, .ref mbo, .ref mma, .ref mbm, .ref mso])), (mtx, .inl (V.2.2.1, 200, .inl (nIf tf))), (mnu, .inl (V.2.2.1, 3, .inl (nIf (updN nu1 i num))))]) rfl ?_
                      refine g_iinc X (v := nI (i + 1)) (L' := [some (.ref mm), some (.int (nI mn)), some (.int (nI (i + 1))), some (.int (nI num)), some (.int (nI p1))]) dX11_isRow_127 rfl (nI_addk (by decide)) (by decide) rfl rfl ?_
                      refine g_goto X 2 dX11_isRow_130 (by decide) ?_
                      refine g_sub (L' := [some (.ref mm), some (.int (nI mn)), some (.int (nI (i + 1))), none, none]) ⟨rfl, ⟨rfl, ⟨rfl, trivial⟩⟩⟩ ?_
                      exact ih2 (i + 1) (by omega) (p2 + 1) (updN nu1 i num) (by omega) (fun j hj => by rw [updN]; split; omega; exact hnu1 j hj) ⟨fun z => absurd z (by omega), fun z => by rw [hrd2, row_fin hpx (by omega) (by omega) (by omega), show i + 1 = mn by omega]⟩
                    · have c105_41n := ine' (a := tf p2) (b := 59) c105_41 (by omega) (by omega)
                      refine g_iconst X (0) dX11_isRow_108 (by decide) ?_
                      exact g_zret X E dX11_isRow_109 ⟨p2, nu1⟩ 0 (by first | rfl | exact rowB_01 _ _) ⟨(by rw [hrd2]; exact (row_no hpx (Or.inl (dig_0 (hl p2 (by omega)) c41_32)) (by omega) (by rw [if_pos (by omega)]; exact c105_41n)).symm), (fun z => absurd ((show (0 : Int32) = rowB (rdN tf (x - p) p 0 0 0 nuf) mn from (by rw [hrd2]; exact (row_no hpx (Or.inl (dig_0 (hl p2 (by omega)) c41_32)) (by omega) (by rw [if_pos (by omega)]; exact c105_41n)).symm)).trans z) (by decide)), hnu1⟩ rfl
              · have hdg := dig_1 (hl p2 (by omega)) c41_32
                refine g_bipush X (10) dX11_isRow_44 (by decide) ?_
                refine g_iload_n X dX11_isRow_46 rfl ?_
                refine g_imul X dX11_isRow_47 ?_
                refine g_toe (x' := nI (10 * num)) (nI_mul' rfl rfl) ?_
                refine g_aload_n X dX11_isRow_48 rfl ?_
                refine g_aload_n X dX11_isRow_49 rfl ?_
                refine g_get X uwX11 0 rfl rfl 2 (by decide) kl_X11_101 rfl rfl gwX11 dX11_isRow_50 ?_
                refine g_callVi X (c_X11_letterAt_in V mm mtx mnu mrc mrw mrl mki mwa mle mno mtr mse mba mim msi mfo mor mbo mma mbm mso x (nI p2) fa_ rcl_ rle_ cl_ ls_ ba_ km_ si_ fm_ tf p2 (by omega) hpx) mo_X11_letterAt kl_X11_104 [0, 1] [1, 2, 0] rfl (by decide +kernel) rfl rfl (fun _ => Nat.le_of_ble_eq_true rfl) 0 11 rfl rfl (As := [.int (nI p2)]) (st := [.int (nI (10 * num))]) (cs' := (0, 0)) rfl rfl rfl rfl dX11_isRow_53 (fun r_46 u_42 hp_43 ws_45 hw_44 => ?_)
                obtain rfl : r_46 = nI (tf p2) := hp_43
                have hw_44x : ws_45 = [(mm, .inr (11, [.int (nI x), .ref mtx, .int (nI p2), .ref mnu, .int fa_, .int rcl_, .int rle_, .ref mrc, .ref mrw, .ref mrl, .int cl_, .ref mki, .ref mwa, .int ls_, .ref mle, .ref mno, .ref mtr, .ref mse, .ref mba, .int ba_, .ref mim, .int km_, .int si_, .ref msi, .ref mfo, .int fm_, .ref mor, .ref mbo, .ref mma, .ref mbm, .ref mso])), (mtx, .inl (V.2.2.1, 200, .inl (nIf tf))), (mnu, .inl (V.2.2.1, 3, .inl (nIf nu1)))] := hw_44.symm
                clear hw_44; subst hw_44x
                refine g_iadd X dX11_isRow_56 ?_
                refine g_toe (x' := nI (10 * num + (tf p2))) (nI_add' rfl rfl) ?_
                refine g_bipush X (48) dX11_isRow_57 (by decide) ?_
                refine g_isub X dX11_isRow_59 ?_
                refine g_toe (x' := nI (10 * num + (tf p2) - 48)) (nI_sub' rfl rfl (by omega)) ?_
                refine g_istore_n X (L' := [some (.ref mm), some (.int (nI mn)), some (.int (nI i)), some (.int (nI (10 * num + (tf p2) - 48))), some (.int (nI p1))]) dX11_isRow_60 (by decide) rfl rfl ?_
                refine g_aload_n X dX11_isRow_61 rfl ?_
                refine g_dup X dX11_isRow_62 rfl ?_
                refine g_get X uwX11 0 rfl rfl 2 (by decide) kl_X11_101 rfl rfl gwX11 dX11_isRow_63 ?_
                refine g_iconst X (1) dX11_isRow_66 (by decide) ?_
                refine g_iadd X dX11_isRow_67 ?_
                refine g_toe (x' := nI (p2 + 1)) (nI_add' rfl rfl) ?_
                refine g_put X uwX11 tyX11 tyX11_ok nmX11 0 rfl rfl 2 (by decide) kl_X11_101 rfl rfl rfl rfl (Nat.le_of_ble_eq_true rfl) gwX11 (ws' := [(mm, .inr (11, [.int (nI x), .ref mtx, .int (nI (p2 + 1)), .ref mnu, .int fa_, .int rcl_, .int rle_, .ref mrc, .ref mrw, .ref mrl, .int cl_, .ref mki, .ref mwa, .int ls_, .ref mle, .ref mno, .ref mtr, .ref mse, .ref mba, .int ba_, .ref mim, .int km_, .int si_, .ref msi, .ref mfo, .int fm_, .ref mor, .ref mbo, .ref mma, .ref mbm, .ref mso])), (mtx, .inl (V.2.2.1, 200, .inl (nIf tf))), (mnu, .inl (V.2.2.1, 3, .inl (nIf nu1)))]) rfl dX11_isRow_68 ?_
                refine g_goto X 15 dX11_isRow_71 (by decide) ?_
                exact ih15 (10 * num + (tf p2) - 48) (p2 + 1) (by omega) (by omega) (by rw [hrd2, row_dig hpx (by omega) (by omega), show p2 - p1 + 1 = p2 + 1 - p1 by omega]) (by omega)
            · refine g_callVi X (c_X11_letterAt_out V mm mtx mnu mrc mrw mrl mki mwa mle mno mtr mse mba mim msi mfo mor mbo mma mbm mso x (nI p2) fa_ rcl_ rle_ cl_ ls_ ba_ km_ si_ fm_ tf p2 (by omega) hpx (by omega)) mo_X11_letterAt kl_X11_104 [0, 1] [1, 2, 0] rfl (by decide +kernel) rfl rfl (fun _ => Nat.le_of_ble_eq_true rfl) 0 11 rfl rfl (As := [.int (nI p2)]) (st := []) (cs' := (0, 0)) rfl rfl rfl rfl dX11_isRow_31 (fun r_51 u_47 hp_48 ws_50 hw_49 => ?_)
              obtain rfl : r_51 = -1 := hp_48
              have hw_49x : ws_50 = [(mm, .inr (11, [.int (nI x), .ref mtx, .int (nI p2), .ref mnu, .int fa_, .int rcl_, .int rle_, .ref mrc, .ref mrw, .ref mrl, .int cl_, .ref mki, .ref mwa, .int ls_, .ref mle, .ref mno, .ref mtr, .ref mse, .ref mba, .int ba_, .ref mim, .int km_, .int si_, .ref msi, .ref mfo, .int fm_, .ref mor, .ref mbo, .ref mma, .ref mbm, .ref mso])), (mtx, .inl (V.2.2.1, 200, .inl (nIf tf))), (mnu, .inl (V.2.2.1, 3, .inl (nIf nu1)))] := hw_49.symm
              clear hw_49; subst hw_49x
              refine g_bipush X (48) dX11_isRow_34 (by decide) ?_
              refine g_bipush X (57) dX11_isRow_36 (by decide) ?_
              refine g_callSi X (c_X11_in V (-1) 48 57) mo_X11_in kl_X11_94 [] [0, 0, 0] rfl (by decide +kernel) rfl rfl (fun _ => Nat.le_of_ble_eq_true rfl) (As := [.int (-1), .int 48, .int 57]) (st := []) (cs' := (0, 0)) rfl rfl rfl dX11_isRow_38 (fun r_56 u_52 hp_53 ws_55 hw_54 => ?_)
              obtain rfl : r_56 = inF (-1) 48 57 := hp_53
              have hw_54x : ws_55 = [(mm, .inr (11, [.int (nI x), .ref mtx, .int (nI p2), .ref mnu, .int fa_, .int rcl_, .int rle_, .ref mrc, .ref mrw, .ref mrl, .int cl_, .ref mki, .ref mwa, .int ls_, .ref mle, .ref mno, .ref mtr, .ref mse, .ref mba, .int ba_, .ref mim, .int km_, .int si_, .ref msi, .ref mfo, .int fm_, .ref mor, .ref mbo, .ref mma, .ref mbm, .ref mso])), (mtx, .inl (V.2.2.1, 200, .inl (nIf tf))), (mnu, .inl (V.2.2.1, 3, .inl (nIf nu1)))] := hw_54.symm
              clear hw_54; subst hw_54x
              refine g_if_eq X 74 dX11_isRow_41 (by decide) (fun c41_57 => ?_) (fun c41_57 => absurd (by decide) c41_57)
              refine g_aload_n X dX11_isRow_74 rfl ?_
              refine g_get X uwX11 0 rfl rfl 2 (by decide) kl_X11_101 rfl rfl gwX11 dX11_isRow_75 ?_
              refine g_iload X dX11_isRow_78 rfl ?_
              refine g_icmp_eq X 108 dX11_isRow_80 (by decide) (fun c80_58 => ?_) (fun c80_58 => ?_)
              · have c80_58n := ieq' (a := p2) (b := p1) c80_58 (by omega) (by omega)
                refine g_iconst X (0) dX11_isRow_108 (by decide) ?_
                exact g_zret X E dX11_isRow_109 ⟨p2, nu1⟩ 0 (by first | rfl | exact rowB_01 _ _) ⟨(by rw [hrd2, show p2 - p1 = 0 by omega]; exact (row_0 (fun z => absurd z hpx)).symm), (fun z => absurd ((show (0 : Int32) = rowB (rdN tf (x - p) p 0 0 0 nuf) mn from (by rw [hrd2, show p2 - p1 = 0 by omega]; exact (row_0 (fun z => absurd z hpx)).symm)).trans z) (by decide)), hnu1⟩ rfl
              · have c80_58n := ine' (a := p2) (b := p1) c80_58 (by omega) (by omega)
                refine g_aload_n X dX11_isRow_83 rfl ?_
                refine g_aload_n X dX11_isRow_84 rfl ?_
                refine g_get X uwX11 0 rfl rfl 2 (by decide) kl_X11_101 rfl rfl gwX11 dX11_isRow_85 ?_
                refine g_callVi X (c_X11_letterAt_out V mm mtx mnu mrc mrw mrl mki mwa mle mno mtr mse mba mim msi mfo mor mbo mma mbm mso x (nI p2) fa_ rcl_ rle_ cl_ ls_ ba_ km_ si_ fm_ tf p2 (by omega) hpx (by omega)) mo_X11_letterAt kl_X11_104 [0, 1] [1, 2, 0] rfl (by decide +kernel) rfl rfl (fun _ => Nat.le_of_ble_eq_true rfl) 0 11 rfl rfl (As := [.int (nI p2)]) (st := []) (cs' := (0, 0)) rfl rfl rfl rfl dX11_isRow_88 (fun r_63 u_59 hp_60 ws_62 hw_61 => ?_)
                obtain rfl : r_63 = -1 := hp_60
                have hw_61x : ws_62 = [(mm, .inr (11, [.int (nI x), .ref mtx, .int (nI p2), .ref mnu, .int fa_, .int rcl_, .int rle_, .ref mrc, .ref mrw, .ref mrl, .int cl_, .ref mki, .ref mwa, .int ls_, .ref mle, .ref mno, .ref mtr, .ref mse, .ref mba, .int ba_, .ref mim, .int km_, .int si_, .ref msi, .ref mfo, .int fm_, .ref mor, .ref mbo, .ref mma, .ref mbm, .ref mso])), (mtx, .inl (V.2.2.1, 200, .inl (nIf tf))), (mnu, .inl (V.2.2.1, 3, .inl (nIf nu1)))] := hw_61.symm
                clear hw_61; subst hw_61x
                refine g_iload_n X dX11_isRow_91 rfl ?_
                refine g_iload_n X dX11_isRow_92 rfl ?_
                refine g_iconst X (1) dX11_isRow_93 (by decide) ?_
                refine g_isub X dX11_isRow_94 ?_
                refine g_toe (x' := nI (mn - 1)) (nI_sub' rfl rfl (by omega)) ?_
                refine g_icmp_ne X 103 dX11_isRow_95 (by decide) (fun c95_64 => ?_) (fun c95_64 => ?_)
                · have c95_64n := ine' (a := i) (b := mn - 1) c95_64 (by omega) (by omega)
                  refine g_bipush X (44) dX11_isRow_103 (by decide) ?_
                  refine g_icmp_eq X 110 dX11_isRow_105 (by decide) (fun c105_65 => absurd c105_65 (by decide)) (fun c105_65 => ?_)
                  refine g_iconst X (0) dX11_isRow_108 (by decide) ?_
                  exact g_zret X E dX11_isRow_109 ⟨p2, nu1⟩ 0 (by first | rfl | exact rowB_01 _ _) ⟨(by rw [hrd2]; exact (row_out hpx).symm), (fun z => absurd ((show (0 : Int32) = rowB (rdN tf (x - p) p 0 0 0 nuf) mn from (by rw [hrd2]; exact (row_out hpx).symm)).trans z) (by decide)), hnu1⟩ rfl
                · have c95_64n := ieq' (a := i) (b := mn - 1) c95_64 (by omega) (by omega)
                  refine g_bipush X (59) dX11_isRow_98 (by decide) ?_
                  refine g_goto X 105 dX11_isRow_100 (by decide) ?_
                  refine g_icmp_eq X 110 dX11_isRow_105 (by decide) (fun c105_66 => absurd c105_66 (by decide)) (fun c105_66 => ?_)
                  refine g_iconst X (0) dX11_isRow_108 (by decide) ?_
                  exact g_zret X E dX11_isRow_109 ⟨p2, nu1⟩ 0 (by first | rfl | exact rowB_01 _ _) ⟨(by rw [hrd2]; exact (row_out hpx).symm), (fun z => absurd ((show (0 : Int32) = rowB (rdN tf (x - p) p 0 0 0 nuf) mn from (by rw [hrd2]; exact (row_out hpx).symm)).trans z) (by decide)), hnu1⟩ rfl
      exact loop15_3 _ 0 p1 (by omega) (by omega) (by rw [Nat.sub_self]; exact hrd.1 (by omega)) (Nat.lt_succ_self _)
  exact loop2 mn 0 (by omega) p nuf (by omega) hnu0 ⟨fun _ => rfl, fun z => absurd z (by omega)⟩
