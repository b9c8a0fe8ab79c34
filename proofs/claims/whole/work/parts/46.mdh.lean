set_option maxHeartbeats 4000000 in
set_option maxRecDepth 100000 in
theorem c_X11_layOrder (V : gV) (mm : Nat) (mtx : Nat) (mnu : Nat) (mrc : Nat) (mrw : Nat) (mrl : Nat) (mki : Nat) (mwa : Nat) (mle : Nat) (mno : Nat) (mtr : Nat) (mse : Nat) (mba : Nat) (mim : Nat) (msi : Nat) (mfo : Nat) (mor : Nat) (mbo : Nat) (mma : Nat) (mbm : Nat) (mso : Nat) (le_ : Int32) (po_ : Int32) (fa_ : Int32) (rcl_ : Int32) (rle_ : Int32) (n : Nat) (ls_ : Int32) (ba_ : Int32) (km_ : Int32) (si_ : Int32) (fm_ : Int32) (od : Nat → Int32) (code : Nat) (hn : n ≤ 7) (h1n : 1 ≤ n) (hcode : code < waysR n) : Kv V yX11_layOrder cX11_layOrder 8 ({ frames := 1, cells := 0, slots := 0, locals := 21 }) [.ref mm, .int (nI code)] [(mm, .inr (11, [.int le_, .ref mtx, .int po_, .ref mnu, .int fa_, .int rcl_, .int rle_, .ref mrc, .ref mrw, .ref mrl, .int (nI n), .ref mki, .ref mwa, .int ls_, .ref mle, .ref mno, .ref mtr, .ref mse, .ref mba, .int ba_, .ref mim, .int km_, .int si_, .ref msi, .ref mfo, .int fm_, .ref mor, .ref mbo, .ref mma, .ref mbm, .ref mso])), (mor, .inl (V.2.2.1, 7, .inl od))] (fun u : (Nat → Int32) => (∀ j, j < n → u j = nI (ordN (dgR n code) j))) (fun u => [(mm, .inr (11, [.int le_, .ref mtx, .int po_, .ref mnu, .int fa_, .int rcl_, .int rle_, .ref mrc, .ref mrw, .ref mrl, .int (nI n), .ref mki, .ref mwa, .int ls_, .ref mle, .ref mno, .ref mtr, .ref mse, .ref mba, .int ba_, .ref mim, .int km_, .int si_, .ref msi, .ref mfo, .int fm_, .ref mor, .ref mbo, .ref mma, .ref mbm, .ref mso])), (mor, .inl (V.2.2.1, 7, .inl u))]) := by
  refine Kv.of [some (.ref mm), some (.int (nI code)), none, none, none, none, none, none] (by decide) (Nat.le_of_ble_eq_true rfl) rfl rfl ?_
  intro Z X E
  have X : gX V Z RX11 cX11_layOrder 8 ({ frames := 1, cells := 0, slots := 0, locals := 21 }) := X
  have hw7 := ways_R n (by omega) h1n
  refine g_iload_n X dX11_layOrder_0 rfl ?_
  refine g_istore_n X (L' := [some (.ref mm), some (.int (nI code)), some (.int (nI code)), none, none, none, none, none]) dX11_layOrder_1 (by decide) rfl rfl ?_
  refine g_iconst X (1) dX11_layOrder_2 (by decide) ?_
  refine g_istore_n X (L' := [some (.ref mm), some (.int (nI code)), some (.int (nI code)), some (.int 1), none, none, none, none]) dX11_layOrder_3 (by decide) rfl rfl ?_
  refine g_iconst X (2) dX11_layOrder_4 (by decide) ?_
  refine g_istore X (L' := [some (.ref mm), some (.int (nI code)), some (.int (nI code)), some (.int 1), some (.int 2), none, none, none]) dX11_layOrder_5 (by decide) rfl rfl ?_
  have loop7 : ∀ (d7 i : Nat), i + d7 = 2 + (n - 3) → ∀ (un0 : Nat) (hi2 : 2 ≤ i) (hun0 : un0 = fa (i - 1)), G V Z 8 (0, 0) [(mm, .inr (11, [.int le_, .ref mtx, .int po_, .ref mnu, .int fa_, .int rcl_, .int rle_, .ref mrc, .ref mrw, .ref mrl, .int (nI n), .ref mki, .ref mwa, .int ls_, .ref mle, .ref mno, .ref mtr, .ref mse, .ref mba, .int ba_, .ref mim, .int km_, .int si_, .ref msi, .ref mfo, .int fm_, .ref mor, .ref mbo, .ref mma, .ref mbm, .ref mso])), (mor, .inl (V.2.2.1, 7, .inl od))] 7 [some (.ref mm), some (.int (nI code)), some (.int (nI code)), some (.int (nI un0)), some (.int (nI i)), none, none, none] [] := by
    intro d7
    induction d7 with
    | zero =>
      intro i hi un0 hi2 hun0
      refine g_iload X dX11_layOrder_7 rfl ?_
      refine g_aload_n X dX11_layOrder_9 rfl ?_
      refine g_get X uwX11 0 rfl rfl 10 (by decide) kl_X11_91 rfl rfl gwX11 dX11_layOrder_10 ?_
      refine g_iconst X (1) dX11_layOrder_13 (by decide) ?_
      refine g_isub X dX11_layOrder_14 ?_
      refine g_toe (x' := nI (n - 1)) (nI_sub' rfl rfl (by omega)) ?_
      refine g_icmp_ge X 29 dX11_layOrder_15 (by decide) (fun c15_1 => ?_) (fun c15_1 => absurd (tge (a := i) (b := n - 1) (by omega) (by omega) (by omega)) c15_1)
      have hun1 : un0 = fa (n - 1 - 1) := (by have e : i = 2 + (n - 3) := (by omega); subst e; rw [hun0]; exact (fa_2 n (by omega) h1n).1)
      refine g_iconst X (1) dX11_layOrder_29 (by decide) ?_
      refine g_istore X (L' := [some (.ref mm), some (.int (nI code)), some (.int (nI code)), some (.int (nI un0)), some (.int 1), none, none, none]) dX11_layOrder_30 (by decide) rfl rfl ?_
      refine g_aload_n X dX11_layOrder_32 rfl ?_
      refine g_get X uwX11 0 rfl rfl 26 (by decide) kl_X11_55 rfl rfl gwX11 dX11_layOrder_33 ?_
      refine g_iconst X (0) dX11_layOrder_36 (by decide) ?_
      refine g_iconst X (0) dX11_layOrder_37 (by decide) ?_
      refine g_iast' X 1 rfl (i := 0) rfl (by omega) (by omega) (ws' := [(mm, .inr (11, [.int le_, .ref mtx, .int po_, .ref mnu, .int fa_, .int rcl_, .int rle_, .ref mrc, .ref mrw, .ref mrl, .int (nI n), .ref mki, .ref mwa, .int ls_, .ref mle, .ref mno, .ref mtr, .ref mse, .ref mba, .int ba_, .ref mim, .int km_, .int si_, .ref msi, .ref mfo, .int fm_, .ref mor, .ref mbo, .ref mma, .ref mbm, .ref mso])), (mor, .inl (V.2.2.1, 7, .inl (upd od 0 0)))]) rfl dX11_layOrder_38 ?_
      refine g_iconst X (1) dX11_layOrder_39 (by decide) ?_
      refine g_istore X (L' := [some (.ref mm), some (.int (nI code)), some (.int (nI code)), some (.int (nI un0)), some (.int 1), some (.int 1), none, none]) dX11_layOrder_40 (by decide) rfl rfl ?_
      have loop42_2 : ∀ (d42 kx : Nat), kx + d42 = n → ∀ (lf : Nat) (un : Nat) (t : Nat) (o1 : Nat → Int32) (h1k : 1 ≤ kx) (hun : un = fa (n - 1 - kx)) (hlf : lf = code % fa (n - kx)) (ht : t = tk (dgR n code) (kx - 1)) (hor : ∀ j, j < kx → o1 j = nI (ordN (dgR n code) j)), G V Z 8 (0, 0) [(mm, .inr (11, [.int le_, .ref mtx, .int po_, .ref mnu, .int fa_, .int rcl_, .int rle_, .ref mrc, .ref mrw, .ref mrl, .int (nI n), .ref mki, .ref mwa, .int ls_, .ref mle, .ref mno, .ref mtr, .ref mse, .ref mba, .int ba_, .ref mim, .int km_, .int si_, .ref msi, .ref mfo, .int fm_, .ref mor, .ref mbo, .ref mma, .ref mbm, .ref mso])), (mor, .inl (V.2.2.1, 7, .inl o1))] 42 [some (.ref mm), some (.int (nI code)), some (.int (nI lf)), some (.int (nI un)), some (.int (nI t)), some (.int (nI kx)), none, none] [] := by
        intro d42
        induction d42 with
        | zero =>
          intro kx hkx lf un t o1 h1k hun hlf ht hor
          refine g_iload X dX11_layOrder_42 rfl ?_
          refine g_aload_n X dX11_layOrder_44 rfl ?_
          refine g_get X uwX11 0 rfl rfl 10 (by decide) kl_X11_91 rfl rfl gwX11 dX11_layOrder_45 ?_
          refine g_icmp_ge X 156 dX11_layOrder_48 (by decide) (fun c48_3 => ?_) (fun c48_3 => absurd (tge (a := kx) (b := n) (by omega) (by omega) (by omega)) c48_3)
          exact g_vret X E dX11_layOrder_156 o1 (by have e : kx = n := (by omega); subst e; exact hor) rfl
        | succ d42 ih42 =>
          intro kx hkx lf un t o1 h1k hun hlf ht hor
          refine g_iload X dX11_layOrder_42 rfl ?_
          refine g_aload_n X dX11_layOrder_44 rfl ?_
          refine g_get X uwX11 0 rfl rfl 10 (by decide) kl_X11_91 rfl rfl gwX11 dX11_layOrder_45 ?_
          refine g_icmp_ge X 156 dX11_layOrder_48 (by decide) (fun c48_4 => absurd c48_4 (fge (a := kx) (b := n) (by omega) (by omega) (by omega))) (fun c48_4 => ?_)
          have hfu := fa_le (n - 1 - kx) (by omega)
          have hfl := fa_le (n - kx) (by omega)
          have hlm := Nat.mod_lt code (show 0 < fa (n - kx) by omega)
          have hq := rg_1 n (by omega) code hcode kx (by omega) h1k
          rw [← hun, ← hlf] at hq
          have hfree := ord_R n (by omega) code hcode (kx - 1) (by omega)
          rw [← ht] at hfree
          have ht8 := hfree.2
          have hd9 := dgR_lt (n := n) (y := code) (i := kx - 1) (by omega) hn
          refine g_iload_n X dX11_layOrder_51 rfl ?_
          refine g_iload_n X dX11_layOrder_52 rfl ?_
          refine g_idiv X dX11_layOrder_53 (fun z => absurd ((nI_z (by omega)).mp z) (by omega)) ?_
          refine g_toe (x' := nI (lf / un)) (nI_div' rfl rfl (by omega) (by omega) (by omega)) ?_
          refine g_toe (x' := nI (dgR n code (kx - 1))) (by rw [hq.1]) ?_
          refine g_istore X (L' := [some (.ref mm), some (.int (nI code)), some (.int (nI lf)), some (.int (nI un)), some (.int (nI t)), some (.int (nI kx)), some (.int (nI (dgR n code (kx - 1)))), none]) dX11_layOrder_54 (by decide) rfl rfl ?_
          refine g_iload_n X dX11_layOrder_56 rfl ?_
          refine g_iload_n X dX11_layOrder_57 rfl ?_
          refine g_rem X dX11_layOrder_58 (fun z => absurd ((nI_z (by omega)).mp z) (by omega)) ?_
          refine g_toe (x' := nI (lf % un)) (nI_mod' rfl rfl (by omega) (by omega) (by omega)) ?_
          refine g_toe (x' := nI (code % fa (n - (kx + 1)))) (by rw [hq.2]) ?_
          refine g_istore_n X (L' := [some (.ref mm), some (.int (nI code)), some (.int (nI (code % fa (n - (kx + 1))))), some (.int (nI un)), some (.int (nI t)), some (.int (nI kx)), some (.int (nI (dgR n code (kx - 1)))), none]) dX11_layOrder_59 (by decide) rfl rfl ?_
          refine g_iload_n X dX11_layOrder_60 rfl ?_
          refine g_aload_n X dX11_layOrder_61 rfl ?_
          refine g_get X uwX11 0 rfl rfl 10 (by decide) kl_X11_91 rfl rfl gwX11 dX11_layOrder_62 ?_
          refine g_iconst X (1) dX11_layOrder_65 (by decide) ?_
          refine g_isub X dX11_layOrder_66 ?_
          refine g_toe (x' := nI (n - 1)) (nI_sub' rfl rfl (by omega)) ?_
          refine g_iload X dX11_layOrder_67 rfl ?_
          refine g_isub X dX11_layOrder_69 ?_
          refine g_toe (x' := nI (n - 1 - kx)) (nI_sub' rfl rfl (by omega)) ?_
          refine g_if_le X 85 dX11_layOrder_70 (by decide) (fun c70_5 => ?_) (fun c70_5 => ?_)
          · have c70_5n := ile' (a := n - 1 - kx) (b := 0) c70_5 (by omega) (by omega)
            refine g_iconst X (1) dX11_layOrder_85 (by decide) ?_
            refine g_idiv X dX11_layOrder_86 (by first | decide | exact (fun z => absurd ((nI_z (by omega)).mp z) (by omega))) ?_
            refine g_toe (x' := nI (un / 1)) (nI_div' rfl rfl (by omega) (by omega) (by omega)) ?_
            refine g_toe (x' := nI (fa (n - 1 - (kx + 1)))) (by rw [fa_nz hun (by omega)]) ?_
            refine g_istore_n X (L' := [some (.ref mm), some (.int (nI code)), some (.int (nI (code % fa (n - (kx + 1))))), some (.int (nI (fa (n - 1 - (kx + 1))))), some (.int (nI t)), some (.int (nI kx)), some (.int (nI (dgR n code (kx - 1)))), none]) dX11_layOrder_87 (by decide) rfl rfl ?_
            refine g_iconst X (0) dX11_layOrder_88 (by decide) ?_
            refine g_istore X (L' := [some (.ref mm), some (.int (nI code)), some (.int (nI (code % fa (n - (kx + 1))))), some (.int (nI (fa (n - 1 - (kx + 1))))), some (.int (nI t)), some (.int (nI kx)), some (.int (nI (dgR n code (kx - 1)))), some (.int 0)]) dX11_layOrder_89 (by decide) rfl rfl ?_
            have loop91_6 : ∀ (d91 : Nat) (qq : Nat) (pl : Nat) (hqc : qq + cnt (fun j => !t.testBit j) pl = dgR n code (kx - 1)) (hfr : fst1 (freeP t (dgR n code (kx - 1))) pl = none), 8 - pl < d91 → G V Z 8 (0, 0) [(mm, .inr (11, [.int le_, .ref mtx, .int po_, .ref mnu, .int fa_, .int rcl_, .int rle_, .ref mrc, .ref mrw, .ref mrl, .int (nI n), .ref mki, .ref mwa, .int ls_, .ref mle, .ref mno, .ref mtr, .ref mse, .ref mba, .int ba_, .ref mim, .int km_, .int si_, .ref msi, .ref mfo, .int fm_, .ref mor, .ref mbo, .ref mma, .ref mbm, .ref mso])), (mor, .inl (V.2.2.1, 7, .inl o1))] 91 [some (.ref mm), some (.int (nI code)), some (.int (nI (code % fa (n - (kx + 1))))), some (.int (nI (fa (n - 1 - (kx + 1))))), some (.int (nI t)), some (.int (nI kx)), some (.int (nI qq)), some (.int (nI pl))] [] := by
              intro d91
              induction d91 with
              | zero => intro qq pl hqc hfr hmu; exact absurd hmu (Nat.not_lt_zero _)
              | succ d91 ih91 =>
                intro qq pl hqc hfr hmu
                have hp8 : pl < 8 := free_lt hfr (by omega)
                refine g_iload X dX11_layOrder_91 rfl ?_
                refine g_iload X dX11_layOrder_93 rfl ?_
                refine g_callSi X (c_X11_has V (nI t) pl) mo_X11_has kl_X11_158 [] [0, 0] rfl (by decide +kernel) rfl rfl (fun _ => Nat.le_of_ble_eq_true rfl) (As := [.int (nI t), .int (nI pl)]) (st := []) (cs' := (0, 0)) rfl rfl rfl dX11_layOrder_95 (fun r_11 u_7 hp_8 ws_10 hw_9 => ?_)
                obtain rfl : r_11 = hasF (nI t) pl := hp_8
                have hw_9x : ws_10 = [(mm, .inr (11, [.int le_, .ref mtx, .int po_, .ref mnu, .int fa_, .int rcl_, .int rle_, .ref mrc, .ref mrw, .ref mrl, .int (nI n), .ref mki, .ref mwa, .int ls_, .ref mle, .ref mno, .ref mtr, .ref mse, .ref mba, .int ba_, .ref mim, .int km_, .int si_, .ref msi, .ref mfo, .int fm_, .ref mor, .ref mbo, .ref mma, .ref mbm, .ref mso])), (mor, .inl (V.2.2.1, 7, .inl o1))] := hw_9.symm
                clear hw_9; subst hw_9x
                refine g_if_ne X 106 dX11_layOrder_98 (by decide) (fun c98_12 => ?_) (fun c98_12 => ?_)
                · have hb : t.testBit pl = true := (by have z := c98_12; cases hb : t.testBit pl with | true => rfl | false => exact absurd ((has_bit t ht8 pl hp8).mpr hb) z)
                  refine g_iload X dX11_layOrder_106 rfl ?_
                  refine g_iload X dX11_layOrder_108 rfl ?_
                  refine g_iload X dX11_layOrder_110 rfl ?_
                  refine g_callSi X (c_X11_has V (nI t) pl) mo_X11_has kl_X11_158 [] [0, 0] rfl (by decide +kernel) rfl rfl (fun _ => Nat.le_of_ble_eq_true rfl) (As := [.int (nI t), .int (nI pl)]) (st := [.int (nI qq)]) (cs' := (0, 0)) rfl rfl rfl dX11_layOrder_112 (fun r_17 u_13 hp_14 ws_16 hw_15 => ?_)
                  obtain rfl : r_17 = hasF (nI t) pl := hp_14
                  have hw_15x : ws_16 = [(mm, .inr (11, [.int le_, .ref mtx, .int po_, .ref mnu, .int fa_, .int rcl_, .int rle_, .ref mrc, .ref mrw, .ref mrl, .int (nI n), .ref mki, .ref mwa, .int ls_, .ref mle, .ref mno, .ref mtr, .ref mse, .ref mba, .int ba_, .ref mim, .int km_, .int si_, .ref msi, .ref mfo, .int fm_, .ref mor, .ref mbo, .ref mma, .ref mbm, .ref mso])), (mor, .inl (V.2.2.1, 7, .inl o1))] := hw_15.symm
                  clear hw_15; subst hw_15x
                  refine g_if_eq X 122 dX11_layOrder_115 (by decide) (fun c115_18 => absurd c115_18 c98_12) (fun c115_18 => ?_)
                  refine g_iconst X (0) dX11_layOrder_118 (by decide) ?_
                  refine g_goto X 123 dX11_layOrder_119 (by decide) ?_
                  refine g_isub X dX11_layOrder_123 ?_
                  refine g_toe (x' := nI (qq - 0)) (nI_sub' rfl rfl (by omega)) ?_
                  refine g_istore X (L' := [some (.ref mm), some (.int (nI code)), some (.int (nI (code % fa (n - (kx + 1))))), some (.int (nI (fa (n - 1 - (kx + 1))))), some (.int (nI t)), some (.int (nI kx)), some (.int (nI (qq - 0))), some (.int (nI pl))]) dX11_layOrder_124 (by decide) rfl rfl ?_
                  refine g_iinc X (v := nI (pl + 1)) (L' := [some (.ref mm), some (.int (nI code)), some (.int (nI (code % fa (n - (kx + 1))))), some (.int (nI (fa (n - 1 - (kx + 1))))), some (.int (nI t)), some (.int (nI kx)), some (.int (nI (qq - 0))), some (.int (nI (pl + 1)))]) dX11_layOrder_126 rfl (nI_addk (by decide)) (by decide) rfl rfl ?_
                  refine g_goto X 91 dX11_layOrder_129 (by decide) ?_
                  exact ih91 (qq - 0) (pl + 1) (fr_T hqc hb) (fst1_n hfr (fp_T hb)) (by omega)
                · refine g_iload X dX11_layOrder_101 rfl ?_
                  refine g_if_le X 132 dX11_layOrder_103 (by decide) (fun c103_19 => ?_) (fun c103_19 => ?_)
                  · have c103_19n := ile' (a := qq) (b := 0) c103_19 (by omega) (by omega)
                    have hb : t.testBit pl = false := ((has_bit t ht8 pl hp8).mp c98_12)
                    have hpl : pl = freeN t (dgR n code (kx - 1)) := fp_end hqc hfr hb (by omega) hp8
                    refine g_aload_n X dX11_layOrder_132 rfl ?_
                    refine g_get X uwX11 0 rfl rfl 26 (by decide) kl_X11_55 rfl rfl gwX11 dX11_layOrder_133 ?_
                    refine g_iload X dX11_layOrder_136 rfl ?_
                    refine g_iload X dX11_layOrder_138 rfl ?_
                    refine g_iast' X 1 rfl (i := kx) rfl (by omega) (by omega) (ws' := [(mm, .inr (11, [.int le_, .ref mtx, .int po_, .ref mnu, .int fa_, .int rcl_, .int rle_, .ref mrc, .ref mrw, .ref mrl, .int (nI n), .ref mki, .ref mwa, .int ls_, .ref mle, .ref mno, .ref mtr, .ref mse, .ref mba, .int ba_, .ref mim, .int km_, .int si_, .ref msi, .ref mfo, .int fm_, .ref mor, .ref mbo, .ref mma, .ref mbm, .ref mso])), (mor, .inl (V.2.2.1, 7, .inl (upd o1 kx (nI pl))))]) rfl dX11_layOrder_140 ?_
                    refine g_iload X dX11_layOrder_141 rfl ?_
                    refine g_iconst X (1) dX11_layOrder_143 (by decide) ?_
                    refine g_iload X dX11_layOrder_144 rfl ?_
                    refine g_ishl X dX11_layOrder_146 ?_
                    refine g_ior X dX11_layOrder_147 ?_
                    refine g_toe (x' := nI (t ||| 2 ^ pl)) (bitor t (by omega) pl (by omega)) ?_
                    refine g_istore X (L' := [some (.ref mm), some (.int (nI code)), some (.int (nI (code % fa (n - (kx + 1))))), some (.int (nI (fa (n - 1 - (kx + 1))))), some (.int (nI (t ||| 2 ^ pl))), some (.int (nI kx)), some (.int (nI qq)), some (.int (nI pl))]) dX11_layOrder_148 (by decide) rfl rfl ?_
                    refine g_iinc X (v := nI (kx + 1)) (L' := [some (.ref mm), some (.int (nI code)), some (.int (nI (code % fa (n - (kx + 1))))), some (.int (nI (fa (n - 1 - (kx + 1))))), some (.int (nI (t ||| 2 ^ pl))), some (.int (nI (kx + 1))), some (.int (nI qq)), some (.int (nI pl))]) dX11_layOrder_150 rfl (nI_addk (by decide)) (by decide) rfl rfl ?_
                    refine g_goto X 42 dX11_layOrder_153 (by decide) ?_
                    refine g_sub (L' := [some (.ref mm), some (.int (nI code)), some (.int (nI (code % fa (n - (kx + 1))))), some (.int (nI (fa (n - 1 - (kx + 1))))), some (.int (nI (t ||| 2 ^ pl))), some (.int (nI (kx + 1))), none, none]) ⟨rfl, ⟨rfl, ⟨rfl, ⟨rfl, ⟨rfl, ⟨rfl, trivial⟩⟩⟩⟩⟩⟩ ?_
                    exact ih42 (kx + 1) (by omega) (code % fa (n - (kx + 1))) (fa (n - 1 - (kx + 1))) (t ||| 2 ^ pl) (upd o1 kx (nI pl)) (by omega) rfl rfl (by rw [hpl]; exact tk_step h1k ht) (or_step h1k ht hpl hor)
                  · have c103_19n := inle' (a := qq) (b := 0) c103_19 (by omega) (by omega)
                    have hb : t.testBit pl = false := ((has_bit t ht8 pl hp8).mp c98_12)
                    refine g_iload X dX11_layOrder_106 rfl ?_
                    refine g_iload X dX11_layOrder_108 rfl ?_
                    refine g_iload X dX11_layOrder_110 rfl ?_
                    refine g_callSi X (c_X11_has V (nI t) pl) mo_X11_has kl_X11_158 [] [0, 0] rfl (by decide +kernel) rfl rfl (fun _ => Nat.le_of_ble_eq_true rfl) (As := [.int (nI t), .int (nI pl)]) (st := [.int (nI qq)]) (cs' := (0, 0)) rfl rfl rfl dX11_layOrder_112 (fun r_24 u_20 hp_21 ws_23 hw_22 => ?_)
                    obtain rfl : r_24 = hasF (nI t) pl := hp_21
                    have hw_22x : ws_23 = [(mm, .inr (11, [.int le_, .ref mtx, .int po_, .ref mnu, .int fa_, .int rcl_, .int rle_, .ref mrc, .ref mrw, .ref mrl, .int (nI n), .ref mki, .ref mwa, .int ls_, .ref mle, .ref mno, .ref mtr, .ref mse, .ref mba, .int ba_, .ref mim, .int km_, .int si_, .ref msi, .ref mfo, .int fm_, .ref mor, .ref mbo, .ref mma, .ref mbm, .ref mso])), (mor, .inl (V.2.2.1, 7, .inl o1))] := hw_22.symm
                    clear hw_22; subst hw_22x
                    refine g_if_eq X 122 dX11_layOrder_115 (by decide) (fun c115_25 => ?_) (fun c115_25 => absurd c98_12 c115_25)
                    refine g_iconst X (1) dX11_layOrder_122 (by decide) ?_
                    refine g_isub X dX11_layOrder_123 ?_
                    refine g_toe (x' := nI (qq - 1)) (nI_sub' rfl rfl (by omega)) ?_
                    refine g_istore X (L' := [some (.ref mm), some (.int (nI code)), some (.int (nI (code % fa (n - (kx + 1))))), some (.int (nI (fa (n - 1 - (kx + 1))))), some (.int (nI t)), some (.int (nI kx)), some (.int (nI (qq - 1))), some (.int (nI pl))]) dX11_layOrder_124 (by decide) rfl rfl ?_
                    refine g_iinc X (v := nI (pl + 1)) (L' := [some (.ref mm), some (.int (nI code)), some (.int (nI (code % fa (n - (kx + 1))))), some (.int (nI (fa (n - 1 - (kx + 1))))), some (.int (nI t)), some (.int (nI kx)), some (.int (nI (qq - 1))), some (.int (nI (pl + 1)))]) dX11_layOrder_126 rfl (nI_addk (by decide)) (by decide) rfl rfl ?_
                    refine g_goto X 91 dX11_layOrder_129 (by decide) ?_
                    exact ih91 (qq - 1) (pl + 1) (fr_F hqc hb (by omega)) (fst1_n hfr (fp_F hqc hb (by omega))) (by omega)
            exact loop91_6 _ (dgR n code (kx - 1)) 0 rfl rfl (Nat.lt_succ_self _)
          · have c70_5n := inle' (a := n - 1 - kx) (b := 0) c70_5 (by omega) (by omega)
            refine g_aload_n X dX11_layOrder_73 rfl ?_
            refine g_get X uwX11 0 rfl rfl 10 (by decide) kl_X11_91 rfl rfl gwX11 dX11_layOrder_74 ?_
            refine g_iconst X (1) dX11_layOrder_77 (by decide) ?_
            refine g_isub X dX11_layOrder_78 ?_
            refine g_toe (x' := nI (n - 1)) (nI_sub' rfl rfl (by omega)) ?_
            refine g_iload X dX11_layOrder_79 rfl ?_
            refine g_isub X dX11_layOrder_81 ?_
            refine g_toe (x' := nI (n - 1 - kx)) (nI_sub' rfl rfl (by omega)) ?_
            refine g_goto X 86 dX11_layOrder_82 (by decide) ?_
            refine g_idiv X dX11_layOrder_86 (by first | decide | exact (fun z => absurd ((nI_z (by omega)).mp z) (by omega))) ?_
            refine g_toe (x' := nI (un / (n - 1 - kx))) (nI_div' rfl rfl (by omega) (by omega) (by omega)) ?_
            refine g_toe (x' := nI (fa (n - 1 - (kx + 1)))) (by rw [fa_nx hn hun (by omega)]) ?_
            refine g_istore_n X (L' := [some (.ref mm), some (.int (nI code)), some (.int (nI (code % fa (n - (kx + 1))))), some (.int (nI (fa (n - 1 - (kx + 1))))), some (.int (nI t)), some (.int (nI kx)), some (.int (nI (dgR n code (kx - 1)))), none]) dX11_layOrder_87 (by decide) rfl rfl ?_
            refine g_iconst X (0) dX11_layOrder_88 (by decide) ?_
            refine g_istore X (L' := [some (.ref mm), some (.int (nI code)), some (.int (nI (code % fa (n - (kx + 1))))), some (.int (nI (fa (n - 1 - (kx + 1))))), some (.int (nI t)), some (.int (nI kx)), some (.int (nI (dgR n code (kx - 1)))), some (.int 0)]) dX11_layOrder_89 (by decide) rfl rfl ?_
            have loop91_26 : ∀ (d91 : Nat) (qq : Nat) (pl : Nat) (hqc : qq + cnt (fun j => !t.testBit j) pl = dgR n code (kx - 1)) (hfr : fst1 (freeP t (dgR n code (kx - 1))) pl = none), 8 - pl < d91 → G V Z 8 (0, 0) [(mm, .inr (11, [.int le_, .ref mtx, .int po_, .ref mnu, .int fa_, .int rcl_, .int rle_, .ref mrc, .ref mrw, .ref mrl, .int (nI n), .ref mki, .ref mwa, .int ls_, .ref mle, .ref mno, .ref mtr, .ref mse, .ref mba, .int ba_, .ref mim, .int km_, .int si_, .ref msi, .ref mfo, .int fm_, .ref mor, .ref mbo, .ref mma, .ref mbm, .ref mso])), (mor, .inl (V.2.2.1, 7, .inl o1))] 91 [some (.ref mm), some (.int (nI code)), some (.int (nI (code % fa (n - (kx + 1))))), some (.int (nI (fa (n - 1 - (kx + 1))))), some (.int (nI t)), some (.int (nI kx)), some (.int (nI qq)), some (.int (nI pl))] [] := by
              intro d91
              induction d91 with
              | zero => intro qq pl hqc hfr hmu; exact absurd hmu (Nat.not_lt_zero _)
              | succ d91 ih91 =>
                intro qq pl hqc hfr hmu
                have hp8 : pl < 8 := free_lt hfr (by omega)
                refine g_iload X dX11_layOrder_91 rfl ?_
                refine g_iload X dX11_layOrder_93 rfl ?_
                refine g_callSi X (c_X11_has V (nI t) pl) mo_X11_has kl_X11_158 [] [0, 0] rfl (by decide +kernel) rfl rfl (fun _ => Nat.le_of_ble_eq_true rfl) (As := [.int (nI t), .int (nI pl)]) (st := []) (cs' := (0, 0)) rfl rfl rfl dX11_layOrder_95 (fun r_31 u_27 hp_28 ws_30 hw_29 => ?_)
                obtain rfl : r_31 = hasF (nI t) pl := hp_28
                have hw_29x : ws_30 = [(mm, .inr (11, [.int le_, .ref mtx, .int po_, .ref mnu, .int fa_, .int rcl_, .int rle_, .ref mrc, .ref mrw, .ref mrl, .int (nI n), .ref mki, .ref mwa, .int ls_, .ref mle, .ref mno, .ref mtr, .ref mse, .ref mba, .int ba_, .ref mim, .int km_, .int si_, .ref msi, .ref mfo, .int fm_, .ref mor, .ref mbo, .ref mma, .ref mbm, .ref mso])), (mor, .inl (V.2.2.1, 7, .inl o1))] := hw_29.symm
                clear hw_29; subst hw_29x
                refine g_if_ne X 106 dX11_layOrder_98 (by decide) (fun c98_32 => ?_) (fun c98_32 => ?_)
                · have hb : t.testBit pl = true := (by have z := c98_32; cases hb : t.testBit pl with | true => rfl | false => exact absurd ((has_bit t ht8 pl hp8).mpr hb) z)
                  refine g_iload X dX11_layOrder_106 rfl ?_
                  refine g_iload X dX11_layOrder_108 rfl ?_
                  refine g_iload X dX11_layOrder_110 rfl ?_
                  refine g_callSi X (c_X11_has V (nI t) pl) mo_X11_has kl_X11_158 [] [0, 0] rfl (by decide +kernel) rfl rfl (fun _ => Nat.le_of_ble_eq_true rfl) (As := [.int (nI t), .int (nI pl)]) (st := [.int (nI qq)]) (cs' := (0, 0)) rfl rfl rfl dX11_layOrder_112 (fun r_37 u_33 hp_34 ws_36 hw_35 => ?_)
                  obtain rfl : r_37 = hasF (nI t) pl := hp_34
                  have hw_35x : ws_36 = [(mm, .inr (11, [.int le_, .ref mtx, .int po_, .ref mnu, .int fa_, .int rcl_, .int rle_, .ref mrc, .ref mrw, .ref mrl, .int (nI n), .ref mki, .ref mwa, .int ls_, .ref mle, .ref mno, .ref mtr, .ref mse, .ref mba, .int ba_, .ref mim, .int km_, .int si_, .ref msi, .ref mfo, .int fm_, .ref mor, .ref mbo, .ref mma, .ref mbm, .ref mso])), (mor, .inl (V.2.2.1, 7, .inl o1))] := hw_35.symm
                  clear hw_35; subst hw_35x
                  refine g_if_eq X 122 dX11_layOrder_115 (by decide) (fun c115_38 => absurd c115_38 c98_32) (fun c115_38 => ?_)
                  refine g_iconst X (0) dX11_layOrder_118 (by decide) ?_
                  refine g_goto X 123 dX11_layOrder_119 (by decide) ?_
                  refine g_isub X dX11_layOrder_123 ?_
                  refine g_toe (x' := nI (qq - 0)) (nI_sub' rfl rfl (by omega)) ?_
                  refine g_istore X (L' := [some (.ref mm), some (.int (nI code)), some (.int (nI (code % fa (n - (kx + 1))))), some (.int (nI (fa (n - 1 - (kx + 1))))), some (.int (nI t)), some (.int (nI kx)), some (.int (nI (qq - 0))), some (.int (nI pl))]) dX11_layOrder_124 (by decide) rfl rfl ?_
                  refine g_iinc X (v := nI (pl + 1)) (L' := [some (.ref mm), some (.int (nI code)), some (.int (nI (code % fa (n - (kx + 1))))), some (.int (nI (fa (n - 1 - (kx + 1))))), some (.int (nI t)), some (.int (nI kx)), some (.int (nI (qq - 0))), some (.int (nI (pl + 1)))]) dX11_layOrder_126 rfl (nI_addk (by decide)) (by decide) rfl rfl ?_
                  refine g_goto X 91 dX11_layOrder_129 (by decide) ?_
                  exact ih91 (qq - 0) (pl + 1) (fr_T hqc hb) (fst1_n hfr (fp_T hb)) (by omega)
                · refine g_iload X dX11_layOrder_101 rfl ?_
                  refine g_if_le X 132 dX11_layOrder_103 (by decide) (fun c103_39 => ?_) (fun c103_39 => ?_)
                  · have c103_39n := ile' (a := qq) (b := 0) c103_39 (by omega) (by omega)
                    have hb : t.testBit pl = false := ((has_bit t ht8 pl hp8).mp c98_32)
                    have hpl : pl = freeN t (dgR n code (kx - 1)) := fp_end hqc hfr hb (by omega) hp8
                    refine g_aload_n X dX11_layOrder_132 rfl ?_
                    refine g_get X uwX11 0 rfl rfl 26 (by decide) kl_X11_55 rfl rfl gwX11 dX11_layOrder_133 ?_
                    refine g_iload X dX11_layOrder_136 rfl ?_
                    refine g_iload X dX11_layOrder_138 rfl ?_
                    refine g_iast' X 1 rfl (i := kx) rfl (by omega) (by omega) (ws' := [(mm, .inr (11, [.int le_, .ref mtx, .int po_, .ref mnu, .int fa_, .int rcl_, .int rle_, .ref mrc, .ref mrw, .ref mrl, .int (nI n), .ref mki, .ref mwa, .int ls_, .ref mle, .ref mno, .ref mtr, .ref mse, .ref mba, .int ba_, .ref mim, .int km_, .int si_, .ref msi, .ref mfo, .int fm_, .ref mor, .ref mbo, .ref mma, .ref mbm, .ref mso])), (mor, .inl (V.2.2.1, 7, .inl (upd o1 kx (nI pl))))]) rfl dX11_layOrder_140 ?_
                    refine g_iload X dX11_layOrder_141 rfl ?_
                    refine g_iconst X (1) dX11_layOrder_143 (by decide) ?_
                    refine g_iload X dX11_layOrder_144 rfl ?_
                    refine g_ishl X dX11_layOrder_146 ?_
                    refine g_ior X dX11_layOrder_147 ?_
                    refine g_toe (x' := nI (t ||| 2 ^ pl)) (bitor t (by omega) pl (by omega)) ?_
                    refine g_istore X (L' := [some (.ref mm), some (.int (nI code)), some (.int (nI (code % fa (n - (kx + 1))))), some (.int (nI (fa (n - 1 - (kx + 1))))), some (.int (nI (t ||| 2 ^ pl))), some (.int (nI kx)), some (.int (nI qq)), some (.int (nI pl))]) dX11_layOrder_148 (by decide) rfl rfl ?_
                    refine g_iinc X (v := nI (kx + 1)) (L' := [some (.ref mm), some (.int (nI code)), some (.int (nI (code % fa (n - (kx + 1))))), some (.int (nI (fa (n - 1 - (kx + 1))))), some (.int (nI (t ||| 2 ^ pl))), some (.int (nI (kx + 1))), some (.int (nI qq)), some (.int (nI pl))]) dX11_layOrder_150 rfl (nI_addk (by decide)) (by decide) rfl rfl ?_
                    refine g_goto X 42 dX11_layOrder_153 (by decide) ?_
                    refine g_sub (L' := [some (.ref mm), some (.int (nI code)), some (.int (nI (code % fa (n - (kx + 1))))), some (.int (nI (fa (n - 1 - (kx + 1))))), some (.int (nI (t ||| 2 ^ pl))), some (.int (nI (kx + 1))), none, none]) ⟨rfl, ⟨rfl, ⟨rfl, ⟨rfl, ⟨rfl, ⟨rfl, trivial⟩⟩⟩⟩⟩⟩ ?_
                    exact ih42 (kx + 1) (by omega) (code % fa (n - (kx + 1))) (fa (n - 1 - (kx + 1))) (t ||| 2 ^ pl) (upd o1 kx (nI pl)) (by omega) rfl rfl (by rw [hpl]; exact tk_step h1k ht) (or_step h1k ht hpl hor)
                  · have c103_39n := inle' (a := qq) (b := 0) c103_39 (by omega) (by omega)
                    have hb : t.testBit pl = false := ((has_bit t ht8 pl hp8).mp c98_32)
                    refine g_iload X dX11_layOrder_106 rfl ?_
                    refine g_iload X dX11_layOrder_108 rfl ?_
                    refine g_iload X dX11_layOrder_110 rfl ?_
                    refine g_callSi X (c_X11_has V (nI t) pl) mo_X11_has kl_X11_158 [] [0, 0] rfl (by decide +kernel) rfl rfl (fun _ => Nat.le_of_ble_eq_true rfl) (As := [.int (nI t), .int (nI pl)]) (st := [.int (nI qq)]) (cs' := (0, 0)) rfl rfl rfl dX11_layOrder_112 (fun r_44 u_40 hp_41 ws_43 hw_42 => ?_)
                    obtain rfl : r_44 = hasF (nI t) pl := hp_41
                    have hw_42x : ws_43 = [(mm, .inr (11, [.int le_, .ref mtx, .int po_, .ref mnu, .int fa_, .int rcl_, .int rle_, .ref mrc, .ref mrw, .ref mrl, .int (nI n), .ref mki, .ref mwa, .int ls_, .ref mle, .ref mno, .ref mtr, .ref mse, .ref mba, .int ba_, .ref mim, .int km_, .int si_, .ref msi, .ref mfo, .int fm_, .ref mor, .ref mbo, .ref mma, .ref mbm, .ref mso])), (mor, .inl (V.2.2.1, 7, .inl o1))] := hw_42.symm
                    clear hw_42; subst hw_42x
                    refine g_if_eq X 122 dX11_layOrder_115 (by decide) (fun c115_45 => ?_) (fun c115_45 => absurd c98_32 c115_45)
                    refine g_iconst X (1) dX11_layOrder_122 (by decide) ?_
                    refine g_isub X dX11_layOrder_123 ?_
                    refine g_toe (x' := nI (qq - 1)) (nI_sub' rfl rfl (by omega)) ?_
                    refine g_istore X (L' := [some (.ref mm), some (.int (nI code)), some (.int (nI (code % fa (n - (kx + 1))))), some (.int (nI (fa (n - 1 - (kx + 1))))), some (.int (nI t)), some (.int (nI kx)), some (.int (nI (qq - 1))), some (.int (nI pl))]) dX11_layOrder_124 (by decide) rfl rfl ?_
                    refine g_iinc X (v := nI (pl + 1)) (L' := [some (.ref mm), some (.int (nI code)), some (.int (nI (code % fa (n - (kx + 1))))), some (.int (nI (fa (n - 1 - (kx + 1))))), some (.int (nI t)), some (.int (nI kx)), some (.int (nI (qq - 1))), some (.int (nI (pl + 1)))]) dX11_layOrder_126 rfl (nI_addk (by decide)) (by decide) rfl rfl ?_
                    refine g_goto X 91 dX11_layOrder_129 (by decide) ?_
                    exact ih91 (qq - 1) (pl + 1) (fr_F hqc hb (by omega)) (fst1_n hfr (fp_F hqc hb (by omega))) (by omega)
            exact loop91_26 _ (dgR n code (kx - 1)) 0 rfl rfl (Nat.lt_succ_self _)
      exact loop42_2 (n - 1) 1 (by omega) code un0 1 (upd od 0 0) (Nat.le_refl _) hun1 (Nat.mod_eq_of_lt hcode).symm rfl (fun j hj => by rw [show j = 0 by omega, pk_us]; rfl)
    | succ d7 ih7 =>
      intro i hi un0 hi2 hun0
      refine g_iload X dX11_layOrder_7 rfl ?_
      refine g_aload_n X dX11_layOrder_9 rfl ?_
      refine g_get X uwX11 0 rfl rfl 10 (by decide) kl_X11_91 rfl rfl gwX11 dX11_layOrder_10 ?_
      refine g_iconst X (1) dX11_layOrder_13 (by decide) ?_
      refine g_isub X dX11_layOrder_14 ?_
      refine g_toe (x' := nI (n - 1)) (nI_sub' rfl rfl (by omega)) ?_
      refine g_icmp_ge X 29 dX11_layOrder_15 (by decide) (fun c15_46 => absurd c15_46 (fge (a := i) (b := n - 1) (by omega) (by omega) (by omega))) (fun c15_46 => ?_)
      refine g_iload_n X dX11_layOrder_18 rfl ?_
      refine g_iload X dX11_layOrder_19 rfl ?_
      refine g_imul X dX11_layOrder_21 ?_
      refine g_toe (x' := nI (un0 * i)) (nI_mul' rfl rfl) ?_
      refine g_istore_n X (L' := [some (.ref mm), some (.int (nI code)), some (.int (nI code)), some (.int (nI (un0 * i))), some (.int (nI i)), none, none, none]) dX11_layOrder_22 (by decide) rfl rfl ?_
      refine g_iinc X (v := nI (i + 1)) (L' := [some (.ref mm), some (.int (nI code)), some (.int (nI code)), some (.int (nI (un0 * i))), some (.int (nI (i + 1))), none, none, none]) dX11_layOrder_23 rfl (nI_addk (by decide)) (by decide) rfl rfl ?_
      refine g_goto X 7 dX11_layOrder_26 (by decide) ?_
      exact ih7 (i + 1) (by omega) (un0 * i) (by omega) (fa_st (by omega) hun0)
  exact loop7 (2 + (n - 3) - 2) 2 (by omega) 1 (Nat.le_refl _) rfl

set_option maxHeartbeats 4000000 in
set_option maxRecDepth 100000 in
theorem w_ring_0 (V : gV) (mm : Nat) (mtx : Nat) (mnu : Nat) (mrc : Nat) (mrw : Nat) (mrl : Nat) (mki : Nat) (mwa : Nat) (mle : Nat) (mno : Nat) (mtr : Nat) (mse : Nat) (mba : Nat) (mim : Nat) (msi : Nat) (mfo : Nat) (mor : Nat) (mbo : Nat) (mma : Nat) (mbm : Nat) (mso : Nat) (le_ : Int32) (po_ : Int32) (fa_ : Int32) (rcl_ : Int32) (rle_ : Int32) (n : Nat) (ls_ : Int32) (ba_ : Int32) (km_ : Int32) (si_ : Int32) (fm_ : Int32) (k : Nat → Int32) (day : Int32) (w : Nat → Int32) (g : Nat → Int32) (tr : Nat → Int32) (or : Nat → Int32) (bo : Nat → Int32) (hn : n ≤ 7) (h1n : 1 ≤ n) (hB : Bd n w) : Ki V yX11_ring cX11_ring 7 .int ({ frames := 2, cells := 0, slots := 0, locals := 48 }) [.ref mm, .int 0] [(mm, .inr (11, [.int le_, .ref mtx, .int po_, .ref mnu, .int fa_, .int rcl_, .int rle_, .ref mrc, .ref mrw, .ref mrl, .int (nI n), .ref mki, .ref mwa, .int ls_, .ref mle, .ref mno, .ref mtr, .ref mse, .ref mba, .int ba_, .ref mim, .int km_, .int si_, .ref msi, .ref mfo, .int fm_, .ref mor, .ref mbo, .ref mma, .ref mbm, .ref mso])), (mki, .inl (V.2.2.1, 7, .inl k)), (mno, .inl (V.2.2.1, 15, .inl (stF day w g))), (mtr, .inl (V.2.2.1, 15, .inl tr)), (mor, .inl (V.2.2.1, 7, .inl or)), (mbo, .inl (V.2.2.1, 7, .inl bo))] (fun (r : Int32) (u : (Nat → Int32) × (Nat → Int32) × (Nat → Int32)) => r = (bestR k day n w (waysR n)).1) (fun u => [(mm, .inr (11, [.int le_, .ref mtx, .int po_, .ref mnu, .int fa_, .int rcl_, .int rle_, .ref mrc, .ref mrw, .ref mrl, .int (nI n), .ref mki, .ref mwa, .int ls_, .ref mle, .ref mno, .ref mtr, .ref mse, .ref mba, .int ba_, .ref mim, .int km_, .int si_, .ref msi, .ref mfo, .int fm_, .ref mor, .ref mbo, .ref mma, .ref mbm, .ref mso])), (mki, .inl (V.2.2.1, 7, .inl k)), (mno, .inl (V.2.2.1, 15, .inl (stF day w g))), (mtr, .inl (V.2.2.1, 15, .inl u.1)), (mor, .inl (V.2.2.1, 7, .inl u.2.1)), (mbo, .inl (V.2.2.1, 7, .inl u.2.2))]) := by
  refine Ki.of [some (.ref mm), some (.int 0), none, none, none, none, none] (by decide) (Nat.le_of_ble_eq_true rfl) rfl rfl ?_
  intro Z X E
  have X : gX V Z RX11 cX11_ring 7 ({ frames := 2, cells := 0, slots := 0, locals := 48 }) := X
  have hw7 := ways_R n (by omega) h1n
  refine g_iload_n X dX11_ring_0 rfl ?_
  refine g_iconst X (0) dX11_ring_1 (by decide) ?_
  refine g_bipush X (7) dX11_ring_2 (by decide) ?_
  refine g_callSi X (c_X11_in V 0 0 7) mo_X11_in kl_X11_94 [] [0, 0, 0, 0, 0, 0] rfl (by decide +kernel) rfl rfl (fun _ => Nat.le_of_ble_eq_true rfl) (As := [.int 0, .int 0, .int 7]) (st := []) (cs' := (0, 0)) rfl rfl rfl dX11_ring_4 (fun r_5 u_1 hp_2 ws_4 hw_3 => ?_)
  obtain rfl : r_5 = inF 0 0 7 := hp_2
  have hw_3x : ws_4 = [(mm, .inr (11, [.int le_, .ref mtx, .int po_, .ref mnu, .int fa_, .int rcl_, .int rle_, .ref mrc, .ref mrw, .ref mrl, .int (nI n), .ref mki, .ref mwa, .int ls_, .ref mle, .ref mno, .ref mtr, .ref mse, .ref mba, .int ba_, .ref mim, .int km_, .int si_, .ref msi, .ref mfo, .int fm_, .ref mor, .ref mbo, .ref mma, .ref mbm, .ref mso])), (mki, .inl (V.2.2.1, 7, .inl k)), (mno, .inl (V.2.2.1, 15, .inl (stF day w g))), (mtr, .inl (V.2.2.1, 15, .inl tr)), (mor, .inl (V.2.2.1, 7, .inl or)), (mbo, .inl (V.2.2.1, 7, .inl bo))] := hw_3.symm
  clear hw_3; subst hw_3x
  refine g_if_ne X 12 dX11_ring_7 (by decide) (fun c7_6 => ?_) (fun c7_6 => absurd c7_6 (by decide))
  refine g_iconst X (1) dX11_ring_12 (by decide) ?_
  refine g_istore_n X (L' := [some (.ref mm), some (.int 0), some (.int 1), none, none, none, none]) dX11_ring_13 (by decide) rfl rfl ?_
  refine g_iconst X (2) dX11_ring_14 (by decide) ?_
  refine g_istore_n X (L' := [some (.ref mm), some (.int 0), some (.int 1), some (.int 2), none, none, none]) dX11_ring_15 (by decide) rfl rfl ?_
  have loop16_7 : ∀ (d16 i : Nat), i + d16 = 2 + (n - 2) → ∀ (mn : Nat) (hi2 : 2 ≤ i) (hmn : mn = fa (i - 1)), G V Z 7 (0, 0) [(mm, .inr (11, [.int le_, .ref mtx, .int po_, .ref mnu, .int fa_, .int rcl_, .int rle_, .ref mrc, .ref mrw, .ref mrl, .int (nI n), .ref mki, .ref mwa, .int ls_, .ref mle, .ref mno, .ref mtr, .ref mse, .ref mba, .int ba_, .ref mim, .int km_, .int si_, .ref msi, .ref mfo, .int fm_, .ref mor, .ref mbo, .ref mma, .ref mbm, .ref mso])), (mki, .inl (V.2.2.1, 7, .inl k)), (mno, .inl (V.2.2.1, 15, .inl (stF day w g))), (mtr, .inl (V.2.2.1, 15, .inl tr)), (mor, .inl (V.2.2.1, 7, .inl or)), (mbo, .inl (V.2.2.1, 7, .inl bo))] 16 [some (.ref mm), some (.int 0), some (.int (nI mn)), some (.int (nI i)), none, none, none] [] := by
    intro d16
    induction d16 with
    | zero =>
      intro i hi mn hi2 hmn
      refine g_iload_n X dX11_ring_16 rfl ?_
      refine g_aload_n X dX11_ring_17 rfl ?_
      refine g_get X uwX11 0 rfl rfl 10 (by decide) kl_X11_91 rfl rfl gwX11 dX11_ring_18 ?_
      refine g_icmp_ge X 34 dX11_ring_21 (by decide) (fun c21_8 => ?_) (fun c21_8 => absurd (tge (a := i) (b := n) (by omega) (by omega) (by omega)) c21_8)
      obtain rfl : mn = waysR n := (by have e : i = 2 + (n - 2) := (by omega); subst e; rw [hmn]; exact (fa_2 n (by omega) h1n).2)
      refine g_bipush X (-4) dX11_ring_34 (by decide) ?_
      refine g_istore_n X (L' := [some (.ref mm), some (.int 0), some (.int (nI (waysR n))), some (.int (-4)), none, none, none]) dX11_ring_36 (by decide) rfl rfl ?_
      refine g_iconst X (0) dX11_ring_37 (by decide) ?_
      refine g_istore X (L' := [some (.ref mm), some (.int 0), some (.int (nI (waysR n))), some (.int (-4)), some (.int 0), none, none]) dX11_ring_38 (by decide) rfl rfl ?_
      have loop40_9 : ∀ (d40 y : Nat), y + d40 = waysR n → ∀ (sm : Int32) (tr1 : Nat → Int32) (or1 : Nat → Int32) (bo1 : Nat → Int32) (hs : sm = (bestR k day n w y).1) (hbo : 0 < y → ∀ j, j < n → bo1 j = nI ((bestR k day n w y).2 j)), G V Z 7 (0, 0) [(mm, .inr (11, [.int le_, .ref mtx, .int po_, .ref mnu, .int fa_, .int rcl_, .int rle_, .ref mrc, .ref mrw, .ref mrl, .int (nI n), .ref mki, .ref mwa, .int ls_, .ref mle, .ref mno, .ref mtr, .ref mse, .ref mba, .int ba_, .ref mim, .int km_, .int si_, .ref msi, .ref mfo, .int fm_, .ref mor, .ref mbo, .ref mma, .ref mbm, .ref mso])), (mki, .inl (V.2.2.1, 7, .inl k)), (mno, .inl (V.2.2.1, 15, .inl (stF day w g))), (mtr, .inl (V.2.2.1, 15, .inl tr1)), (mor, .inl (V.2.2.1, 7, .inl or1)), (mbo, .inl (V.2.2.1, 7, .inl bo1))] 40 [some (.ref mm), some (.int 0), some (.int (nI (waysR n))), some (.int sm), some (.int (nI y)), none, none] [] := by
        intro d40
        induction d40 with
        | zero =>
          intro y hy sm tr1 or1 bo1 hs hbo
          refine g_iload X dX11_ring_40 rfl ?_
          refine g_iload_n X dX11_ring_42 rfl ?_
          refine g_icmp_ge X 168 dX11_ring_43 (by decide) (fun c43_10 => ?_) (fun c43_10 => absurd (tge (a := y) (b := waysR n) (by omega) (by omega) (by omega)) c43_10)
          refine g_iload_n X dX11_ring_168 rfl ?_
          refine g_if_ne X 176 dX11_ring_169 (by decide) (fun c169_11 => absurd (by decide) c169_11) (fun c169_11 => ?_)
          refine g_iload_n X dX11_ring_172 rfl ?_
          refine g_goto X 197 dX11_ring_173 (by decide) ?_
          exact g_iret X E dX11_ring_197 ⟨tr1, or1, bo1⟩ sm (by have e : y = waysR n := (by omega); subst e; exact hs) rfl
        | succ d40 ih40 =>
          intro y hy sm tr1 or1 bo1 hs hbo
          refine g_iload X dX11_ring_40 rfl ?_
          refine g_iload_n X dX11_ring_42 rfl ?_
          refine g_icmp_ge X 168 dX11_ring_43 (by decide) (fun c43_12 => absurd c43_12 (fge (a := y) (b := waysR n) (by omega) (by omega) (by omega))) (fun c43_12 => ?_)
          refine g_aload_n X dX11_ring_46 rfl ?_
          refine g_iload X dX11_ring_47 rfl ?_
          refine g_callVv X (c_X11_layOrder V mm mtx mnu mrc mrw mrl mki mwa mle mno mtr mse mba mim msi mfo mor mbo mma mbm mso le_ po_ fa_ rcl_ rle_ n ls_ ba_ km_ si_ fm_ or1 y (by omega) (by omega) (by omega)) mo_X11_layOrder kl_X11_189 [0, 4] [1, 0, 0, 0, 2, 0] rfl (by decide +kernel) rfl rfl (fun _ => Nat.le_of_ble_eq_true rfl) 0 11 rfl rfl (As := [.int (nI y)]) (st := []) (cs' := (0, 0)) rfl rfl rfl rfl dX11_ring_49 (fun no_13 hp_14 ws_16 hw_15 => ?_)
          have hor_18 : (∀ j, j < n → no_13 j = nI (ordN (dgR n y) j)) := hp_14
          have hw_15x : ws_16 = [(mm, .inr (11, [.int le_, .ref mtx, .int po_, .ref mnu, .int fa_, .int rcl_, .int rle_, .ref mrc, .ref mrw, .ref mrl, .int (nI n), .ref mki, .ref mwa, .int ls_, .ref mle, .ref mno, .ref mtr, .ref mse, .ref mba, .int ba_, .ref mim, .int km_, .int si_, .ref msi, .ref mfo, .int fm_, .ref mor, .ref mbo, .ref mma, .ref mbm, .ref mso])), (mki, .inl (V.2.2.1, 7, .inl k)), (mno, .inl (V.2.2.1, 15, .inl (stF day w g))), (mtr, .inl (V.2.2.1, 15, .inl tr1)), (mor, .inl (V.2.2.1, 7, .inl no_13)), (mbo, .inl (V.2.2.1, 7, .inl bo1))] := hw_15.symm
          clear hw_15; subst hw_15x
          refine g_aload_n X dX11_ring_52 rfl ?_
          refine g_get X uwX11 0 rfl rfl 15 (by decide) kl_X11_34 rfl rfl gwX11 dX11_ring_53 ?_
          refine g_iconst X (0) dX11_ring_56 (by decide) ?_
          refine g_aload_n X dX11_ring_57 rfl ?_
          refine g_get X uwX11 0 rfl rfl 16 (by decide) kl_X11_37 rfl rfl gwX11 dX11_ring_58 ?_
          refine g_iconst X (0) dX11_ring_61 (by decide) ?_
          refine g_callSv X (c_X11_copy V mno 15 (stF day w g) mtr 15 tr1 0 0 (by omega) (by omega) (by omega) (by omega)) mo_X11_copy kl_X11_165 [2, 3] [0, 0, 1, 2, 0, 0] rfl (by decide +kernel) rfl rfl (fun _ => Nat.le_of_ble_eq_true rfl) (As := [.ref mno, .int 0, .ref mtr, .int 0]) (st := []) (cs' := (0, 0)) rfl rfl rfl dX11_ring_62 (fun u_19 hp_20 ws_22 hw_21 => ?_)
          have hw_21x : ws_22 = [(mm, .inr (11, [.int le_, .ref mtx, .int po_, .ref mnu, .int fa_, .int rcl_, .int rle_, .ref mrc, .ref mrw, .ref mrl, .int (nI n), .ref mki, .ref mwa, .int ls_, .ref mle, .ref mno, .ref mtr, .ref mse, .ref mba, .int ba_, .ref mim, .int km_, .int si_, .ref msi, .ref mfo, .int fm_, .ref mor, .ref mbo, .ref mma, .ref mbm, .ref mso])), (mki, .inl (V.2.2.1, 7, .inl k)), (mno, .inl (V.2.2.1, 15, .inl (stF day w g))), (mtr, .inl (V.2.2.1, 15, .inl (cpM 0 0 (stF day w g) tr1))), (mor, .inl (V.2.2.1, 7, .inl no_13)), (mbo, .inl (V.2.2.1, 7, .inl bo1))] := hw_21.symm
          clear hw_21; subst hw_21x
          refine g_arr 3 (stF day w g) rfl cpM_0 (ws' := [(mm, .inr (11, [.int le_, .ref mtx, .int po_, .ref mnu, .int fa_, .int rcl_, .int rle_, .ref mrc, .ref mrw, .ref mrl, .int (nI n), .ref mki, .ref mwa, .int ls_, .ref mle, .ref mno, .ref mtr, .ref mse, .ref mba, .int ba_, .ref mim, .int km_, .int si_, .ref msi, .ref mfo, .int fm_, .ref mor, .ref mbo, .ref mma, .ref mbm, .ref mso])), (mki, .inl (V.2.2.1, 7, .inl k)), (mno, .inl (V.2.2.1, 15, .inl (stF day w g))), (mtr, .inl (V.2.2.1, 15, .inl (stF day w g))), (mor, .inl (V.2.2.1, 7, .inl no_13)), (mbo, .inl (V.2.2.1, 7, .inl bo1))]) rfl ?_
          refine g_iconst X (1) dX11_ring_65 (by decide) ?_
          refine g_istore X (L' := [some (.ref mm), some (.int 0), some (.int (nI (waysR n))), some (.int sm), some (.int (nI y)), some (.int 1), none]) dX11_ring_66 (by decide) rfl rfl ?_
          have loop68_24 : ∀ (d68 ix : Nat), ix + d68 = n → ∀ (wr : Nat → Int32) (h1x : 1 ≤ ix) (hBr : Bd n wr) (hwr : wr = ringW k day (ordN (dgR n y)) ix w), G V Z 7 (0, 0) [(mm, .inr (11, [.int le_, .ref mtx, .int po_, .ref mnu, .int fa_, .int rcl_, .int rle_, .ref mrc, .ref mrw, .ref mrl, .int (nI n), .ref mki, .ref mwa, .int ls_, .ref mle, .ref mno, .ref mtr, .ref mse, .ref mba, .int ba_, .ref mim, .int km_, .int si_, .ref msi, .ref mfo, .int fm_, .ref mor, .ref mbo, .ref mma, .ref mbm, .ref mso])), (mki, .inl (V.2.2.1, 7, .inl k)), (mno, .inl (V.2.2.1, 15, .inl (stF day w g))), (mtr, .inl (V.2.2.1, 15, .inl (stF day wr g))), (mor, .inl (V.2.2.1, 7, .inl no_13)), (mbo, .inl (V.2.2.1, 7, .inl bo1))] 68 [some (.ref mm), some (.int 0), some (.int (nI (waysR n))), some (.int sm), some (.int (nI y)), some (.int (nI ix)), none] [] := by
            intro d68
            induction d68 with
            | zero =>
              intro ix hix wr h1x hBr hwr
              refine g_iload X dX11_ring_68 rfl ?_
              refine g_aload_n X dX11_ring_70 rfl ?_
              refine g_get X uwX11 0 rfl rfl 10 (by decide) kl_X11_91 rfl rfl gwX11 dX11_ring_71 ?_
              refine g_icmp_ge X 107 dX11_ring_74 (by decide) (fun c74_25 => ?_) (fun c74_25 => absurd (tge (a := ix) (b := n) (by omega) (by omega) (by omega)) c74_25)
              refine g_aload_n X dX11_ring_107 rfl ?_
              refine g_aload_n X dX11_ring_108 rfl ?_
              refine g_get X uwX11 0 rfl rfl 16 (by decide) kl_X11_37 rfl rfl gwX11 dX11_ring_109 ?_
              refine g_callVi X (c_X11_allWrong V mm mtx mnu mrc mrw mrl mki mwa mle mno mtr mse mba mim msi mfo mor mbo mma mbm mso le_ po_ fa_ rcl_ rle_ n ls_ ba_ km_ si_ fm_ day wr g mtr (by omega)) mo_X11_allWrong kl_X11_192 [0, 3] [1, 0, 0, 2, 0, 0] rfl (by decide +kernel) rfl rfl (fun _ => Nat.le_of_ble_eq_true rfl) 0 11 rfl rfl (As := [.ref mtr]) (st := []) (cs' := (0, 0)) rfl rfl rfl rfl dX11_ring_112 (fun r_30 u_26 hp_27 ws_29 hw_28 => ?_)
              obtain rfl : r_30 = togF n wr := hp_27
              have hw_28x : ws_29 = [(mm, .inr (11, [.int le_, .ref mtx, .int po_, .ref mnu, .int fa_, .int rcl_, .int rle_, .ref mrc, .ref mrw, .ref mrl, .int (nI n), .ref mki, .ref mwa, .int ls_, .ref mle, .ref mno, .ref mtr, .ref mse, .ref mba, .int ba_, .ref mim, .int km_, .int si_, .ref msi, .ref mfo, .int fm_, .ref mor, .ref mbo, .ref mma, .ref mbm, .ref mso])), (mki, .inl (V.2.2.1, 7, .inl k)), (mno, .inl (V.2.2.1, 15, .inl (stF day w g))), (mtr, .inl (V.2.2.1, 15, .inl (stF day wr g))), (mor, .inl (V.2.2.1, 7, .inl no_13)), (mbo, .inl (V.2.2.1, 7, .inl bo1))] := hw_28.symm
              clear hw_28; subst hw_28x
              refine g_istore X (L' := [some (.ref mm), some (.int 0), some (.int (nI (waysR n))), some (.int sm), some (.int (nI y)), some (.int (togF n wr)), none]) dX11_ring_115 (by decide) rfl rfl ?_
              refine g_iload_n X dX11_ring_117 rfl ?_
              refine g_if_lt X 127 dX11_ring_118 (by decide) (fun c118_31 => ?_) (fun c118_31 => ?_)
              · have c118_31d := Int32.not_le.mpr c118_31
                have hbb := bR_T hs (by have e : ix = n := (by omega); subst e; exact hwr) (br_b (by rw [hs]; exact best_pos hn hB y) (Or.inl c118_31))
                refine g_iload X dX11_ring_127 rfl ?_
                refine g_istore_n X (L' := [some (.ref mm), some (.int 0), some (.int (nI (waysR n))), some (.int (togF n wr)), some (.int (nI y)), some (.int (togF n wr)), none]) dX11_ring_129 (by decide) rfl rfl ?_
                refine g_iconst X (0) dX11_ring_130 (by decide) ?_
                refine g_istore X (L' := [some (.ref mm), some (.int 0), some (.int (nI (waysR n))), some (.int (togF n wr)), some (.int (nI y)), some (.int (togF n wr)), some (.int 0)]) dX11_ring_131 (by decide) rfl rfl ?_
                have loop133_32 : ∀ (d133 ix2 : Nat), ix2 + d133 = n → ∀ (bo2 : Nat → Int32) (hb2 : ∀ j, j < ix2 → bo2 j = no_13 j), G V Z 7 (0, 0) [(mm, .inr (11, [.int le_, .ref mtx, .int po_, .ref mnu, .int fa_, .int rcl_, .int rle_, .ref mrc, .ref mrw, .ref mrl, .int (nI n), .ref mki, .ref mwa, .int ls_, .ref mle, .ref mno, .ref mtr, .ref mse, .ref mba, .int ba_, .ref mim, .int km_, .int si_, .ref msi, .ref mfo, .int fm_, .ref mor, .ref mbo, .ref mma, .ref mbm, .ref mso])), (mki, .inl (V.2.2.1, 7, .inl k)), (mno, .inl (V.2.2.1, 15, .inl (stF day w g))), (mtr, .inl (V.2.2.1, 15, .inl (stF day wr g))), (mor, .inl (V.2.2.1, 7, .inl no_13)), (mbo, .inl (V.2.2.1, 7, .inl bo2))] 133 [some (.ref mm), some (.int 0), some (.int (nI (waysR n))), some (.int (togF n wr)), some (.int (nI y)), some (.int (togF n wr)), some (.int (nI ix2))] [] := by
                  intro d133
                  induction d133 with
                  | zero =>
                    intro ix2 hix2 bo2 hb2
                    refine g_iload X dX11_ring_133 rfl ?_
                    refine g_aload_n X dX11_ring_135 rfl ?_
                    refine g_get X uwX11 0 rfl rfl 10 (by decide) kl_X11_91 rfl rfl gwX11 dX11_ring_136 ?_
                    refine g_icmp_ge X 162 dX11_ring_139 (by decide) (fun c139_33 => ?_) (fun c139_33 => absurd (tge (a := ix2) (b := n) (by omega) (by omega) (by omega)) c139_33)
                    refine g_iinc X (v := nI (y + 1)) (L' := [some (.ref mm), some (.int 0), some (.int (nI (waysR n))), some (.int (togF n wr)), some (.int (nI (y + 1))), some (.int (togF n wr)), some (.int (nI ix2))]) dX11_ring_162 rfl (nI_addk (by decide)) (by decide) rfl rfl ?_
                    refine g_goto X 40 dX11_ring_165 (by decide) ?_
                    refine g_sub (L' := [some (.ref mm), some (.int 0), some (.int (nI (waysR n))), some (.int (togF n wr)), some (.int (nI (y + 1))), none, none]) ⟨rfl, ⟨rfl, ⟨rfl, ⟨rfl, ⟨rfl, trivial⟩⟩⟩⟩⟩ ?_
                    exact ih40 (y + 1) (by omega) (togF n wr) (stF day wr g) no_13 bo2 hbb.1 (fun _ j hj => by rw [hbb.2, hb2 j (by omega)]; exact hor_18 j hj)
                  | succ d133 ih133 =>
                    intro ix2 hix2 bo2 hb2
                    refine g_iload X dX11_ring_133 rfl ?_
                    refine g_aload_n X dX11_ring_135 rfl ?_
                    refine g_get X uwX11 0 rfl rfl 10 (by decide) kl_X11_91 rfl rfl gwX11 dX11_ring_136 ?_
                    refine g_icmp_ge X 162 dX11_ring_139 (by decide) (fun c139_34 => absurd c139_34 (fge (a := ix2) (b := n) (by omega) (by omega) (by omega))) (fun c139_34 => ?_)
                    refine g_aload_n X dX11_ring_142 rfl ?_
                    refine g_get X uwX11 0 rfl rfl 27 (by decide) kl_X11_58 rfl rfl gwX11 dX11_ring_143 ?_
                    refine g_iload X dX11_ring_146 rfl ?_
                    refine g_aload_n X dX11_ring_148 rfl ?_
                    refine g_get X uwX11 0 rfl rfl 26 (by decide) kl_X11_55 rfl rfl gwX11 dX11_ring_149 ?_
                    refine g_iload X dX11_ring_152 rfl ?_
                    refine g_iald' X 4 rfl (i := ix2) rfl (by omega) (by omega) dX11_ring_154 ?_
                    refine g_iast' X 5 rfl (i := ix2) rfl (by omega) (by omega) (ws' := [(mm, .inr (11, [.int le_, .ref mtx, .int po_, .ref mnu, .int fa_, .int rcl_, .int rle_, .ref mrc, .ref mrw, .ref mrl, .int (nI n), .ref mki, .ref mwa, .int ls_, .ref mle, .ref mno, .ref mtr, .ref mse, .ref mba, .int ba_, .ref mim, .int km_, .int si_, .ref msi, .ref mfo, .int fm_, .ref mor, .ref mbo, .ref mma, .ref mbm, .ref mso])), (mki, .inl (V.2.2.1, 7, .inl k)), (mno, .inl (V.2.2.1, 15, .inl (stF day w g))), (mtr, .inl (V.2.2.1, 15, .inl (stF day wr g))), (mor, .inl (V.2.2.1, 7, .inl no_13)), (mbo, .inl (V.2.2.1, 7, .inl (upd bo2 ix2 (no_13 ix2))))]) rfl dX11_ring_155 ?_
                    refine g_iinc X (v := nI (ix2 + 1)) (L' := [some (.ref mm), some (.int 0), some (.int (nI (waysR n))), some (.int (togF n wr)), some (.int (nI y)), some (.int (togF n wr)), some (.int (nI (ix2 + 1)))]) dX11_ring_156 rfl (nI_addk (by decide)) (by decide) rfl rfl ?_
                    refine g_goto X 133 dX11_ring_159 (by decide) ?_
                    exact ih133 (ix2 + 1) (by omega) (upd bo2 ix2 (no_13 ix2)) (fun j hj => by
          by_cases e : j = ix2
          · rw [e, pk_us]
          · rw [pk_un e]; exact hb2 j (by omega))
                exact loop133_32 n 0 (by omega) bo1 (fun j h => absurd h (Nat.not_lt_zero _))
              · have c118_31d := Int32.not_lt.mp c118_31
                refine g_iload X dX11_ring_121 rfl ?_
                refine g_iload_n X dX11_ring_123 rfl ?_
                refine g_icmp_ge X 162 dX11_ring_124 (by decide) (fun c124_35 => ?_) (fun c124_35 => ?_)
                · have c124_35d := Int32.not_lt.mpr c124_35
                  have hbb := bR_F hs (by have e : ix = n := (by omega); subst e; exact hwr) (br_n (os := togF n wr) c118_31 (Int32.not_lt.mpr c124_35))
                  refine g_iinc X (v := nI (y + 1)) (L' := [some (.ref mm), some (.int 0), some (.int (nI (waysR n))), some (.int sm), some (.int (nI (y + 1))), some (.int (togF n wr)), none]) dX11_ring_162 rfl (nI_addk (by decide)) (by decide) rfl rfl ?_
                  refine g_goto X 40 dX11_ring_165 (by decide) ?_
                  refine g_sub (L' := [some (.ref mm), some (.int 0), some (.int (nI (waysR n))), some (.int sm), some (.int (nI (y + 1))), none, none]) ⟨rfl, ⟨rfl, ⟨rfl, ⟨rfl, ⟨rfl, trivial⟩⟩⟩⟩⟩ ?_
                  exact ih40 (y + 1) (by omega) sm (stF day wr g) no_13 bo1 hbb.1 (fun _ j hj => by rw [hbb.2]; exact hbo (bR_y hs (br_n (os := togF n wr) c118_31 (Int32.not_lt.mpr c124_35))) j hj)
                · have c124_35d := Int32.not_le.mp c124_35
                  have hbb := bR_T hs (by have e : ix = n := (by omega); subst e; exact hwr) (br_b (by rw [hs]; exact best_pos hn hB y) (Or.inr c124_35d))
                  refine g_iload X dX11_ring_127 rfl ?_
                  refine g_istore_n X (L' := [some (.ref mm), some (.int 0), some (.int (nI (waysR n))), some (.int (togF n wr)), some (.int (nI y)), some (.int (togF n wr)), none]) dX11_ring_129 (by decide) rfl rfl ?_
                  refine g_iconst X (0) dX11_ring_130 (by decide) ?_
                  refine g_istore X (L' := [some (.ref mm), some (.int 0), some (.int (nI (waysR n))), some (.int (togF n wr)), some (.int (nI y)), some (.int (togF n wr)), some (.int 0)]) dX11_ring_131 (by decide) rfl rfl ?_
                  have loop133_36 : ∀ (d133 ix2 : Nat), ix2 + d133 = n → ∀ (bo2 : Nat → Int32) (hb2 : ∀ j, j < ix2 → bo2 j = no_13 j), G V Z 7 (0, 0) [(mm, .inr (11, [.int le_, .ref mtx, .int po_, .ref mnu, .int fa_, .int rcl_, .int rle_, .ref mrc, .ref mrw, .ref mrl, .int (nI n), .ref mki, .ref mwa, .int ls_, .ref mle, .ref mno, .ref mtr, .ref mse, .ref mba, .int ba_, .ref mim, .int km_, .int si_, .ref msi, .ref mfo, .int fm_, .ref mor, .ref mbo, .ref mma, .ref mbm, .ref mso])), (mki, .inl (V.2.2.1, 7, .inl k)), (mno, .inl (V.2.2.1, 15, .inl (stF day w g))), (mtr, .inl (V.2.2.1, 15, .inl (stF day wr g))), (mor, .inl (V.2.2.1, 7, .inl no_13)), (mbo, .inl (V.2.2.1, 7, .inl bo2))] 133 [some (.ref mm), some (.int 0), some (.int (nI (waysR n))), some (.int (togF n wr)), some (.int (nI y)), some (.int (togF n wr)), some (.int (nI ix2))] [] := by
                    intro d133
                    induction d133 with
                    | zero =>
                      intro ix2 hix2 bo2 hb2
                      refine g_iload X dX11_ring_133 rfl ?_
                      refine g_aload_n X dX11_ring_135 rfl ?_
                      refine g_get X uwX11 0 rfl rfl 10 (by decide) kl_X11_91 rfl rfl gwX11 dX11_ring_136 ?_
                      refine g_icmp_ge X 162 dX11_ring_139 (by decide) (fun c139_37 => ?_) (fun c139_37 => absurd (tge (a := ix2) (b := n) (by omega) (by omega) (by omega)) c139_37)
                      refine g_iinc X (v := nI (y + 1)) (L' := [some (.ref mm), some (.int 0), some (.int (nI (waysR n))), some (.int (togF n wr)), some (.int (nI (y + 1))), some (.int (togF n wr)), some (.int (nI ix2))]) dX11_ring_162 rfl (nI_addk (by decide)) (by decide) rfl rfl ?_
                      refine g_goto X 40 dX11_ring_165 (by decide) ?_
                      refine g_sub (L' := [some (.ref mm), some (.int 0), some (.int (nI (waysR n))), some (.int (togF n wr)), some (.int (nI (y + 1))), none, none]) ⟨rfl, ⟨rfl, ⟨rfl, ⟨rfl, ⟨rfl, trivial⟩⟩⟩⟩⟩ ?_
                      exact ih40 (y + 1) (by omega) (togF n wr) (stF day wr g) no_13 bo2 hbb.1 (fun _ j hj => by rw [hbb.2, hb2 j (by omega)]; exact hor_18 j hj)
                    | succ d133 ih133 =>
                      intro ix2 hix2 bo2 hb2
                      refine g_iload X dX11_ring_133 rfl ?_
                      refine g_aload_n X dX11_ring_135 rfl ?_
                      refine g_get X uwX11 0 rfl rfl 10 (by decide) kl_X11_91 rfl rfl gwX11 dX11_ring_136 ?_
                      refine g_icmp_ge X 162 dX11_ring_139 (by decide) (fun c139_38 => absurd c139_38 (fge (a := ix2) (b := n) (by omega) (by omega) (by omega))) (fun c139_38 => ?_)
                      refine g_aload_n X dX11_ring_142 rfl ?_
                      refine g_get X uwX11 0 rfl rfl 27 (by decide) kl_X11_58 rfl rfl gwX11 dX11_ring_143 ?_
                      refine g_iload X dX11_ring_146 rfl ?_
                      refine g_aload_n X dX11_ring_148 rfl ?_
                      refine g_get X uwX11 0 rfl rfl 26 (by decide) kl_X11_55 rfl rfl gwX11 dX11_ring_149 ?_
                      refine g_iload X dX11_ring_152 rfl ?_
                      refine g_iald' X 4 rfl (i := ix2) rfl (by omega) (by omega) dX11_ring_154 ?_
                      refine g_iast' X 5 rfl (i := ix2) rfl (by omega) (by omega) (ws' := [(mm, .inr (11, [.int le_, .ref mtx, .int po_, .ref mnu, .int fa_, .int rcl_, .int rle_, .ref mrc, .ref mrw, .ref mrl, .int (nI n), .ref mki, .ref mwa, .int ls_, .ref mle, .ref mno, .ref mtr, .ref mse, .ref mba, .int ba_, .ref mim, .int km_, .int si_, .ref msi, .ref mfo, .int fm_, .ref mor, .ref mbo, .ref mma, .ref mbm, .ref mso])), (mki, .inl (V.2.2.1, 7, .inl k)), (mno, .inl (V.2.2.1, 15, .inl (stF day w g))), (mtr, .inl (V.2.2.1, 15, .inl (stF day wr g))), (mor, .inl (V.2.2.1, 7, .inl no_13)), (mbo, .inl (V.2.2.1, 7, .inl (upd bo2 ix2 (no_13 ix2))))]) rfl dX11_ring_155 ?_
                      refine g_iinc X (v := nI (ix2 + 1)) (L' := [some (.ref mm), some (.int 0), some (.int (nI (waysR n))), some (.int (togF n wr)), some (.int (nI y)), some (.int (togF n wr)), some (.int (nI (ix2 + 1)))]) dX11_ring_156 rfl (nI_addk (by decide)) (by decide) rfl rfl ?_
                      refine g_goto X 133 dX11_ring_159 (by decide) ?_
                      exact ih133 (ix2 + 1) (by omega) (upd bo2 ix2 (no_13 ix2)) (fun j hj => by
          by_cases e : j = ix2
          · rw [e, pk_us]
          · rw [pk_un e]; exact hb2 j (by omega))
                  exact loop133_36 n 0 (by omega) bo1 (fun j h => absurd h (Nat.not_lt_zero _))
            | succ d68 ih68 =>
              intro ix hix wr h1x hBr hwr
              refine g_iload X dX11_ring_68 rfl ?_
              refine g_aload_n X dX11_ring_70 rfl ?_
              refine g_get X uwX11 0 rfl rfl 10 (by decide) kl_X11_91 rfl rfl gwX11 dX11_ring_71 ?_
              refine g_icmp_ge X 107 dX11_ring_74 (by decide) (fun c74_39 => absurd c74_39 (fge (a := ix) (b := n) (by omega) (by omega) (by omega))) (fun c74_39 => ?_)
              refine g_aload_n X dX11_ring_77 rfl ?_
              refine g_aload_n X dX11_ring_78 rfl ?_
              refine g_get X uwX11 0 rfl rfl 16 (by decide) kl_X11_37 rfl rfl gwX11 dX11_ring_79 ?_
              refine g_aload_n X dX11_ring_82 rfl ?_
              refine g_get X uwX11 0 rfl rfl 26 (by decide) kl_X11_55 rfl rfl gwX11 dX11_ring_83 ?_
              refine g_iload X dX11_ring_86 rfl ?_
              refine g_iconst X (1) dX11_ring_88 (by decide) ?_
              refine g_isub X dX11_ring_89 ?_
              refine g_toe (x' := nI (ix - 1)) (nI_sub' rfl rfl (by omega)) ?_
              refine g_iald' X 4 rfl (i := (ix - 1)) rfl (by omega) (by omega) dX11_ring_90 ?_
              refine g_toe (x' := nI (ordN (dgR n y) (ix - 1))) (hor_18 _ (by omega)) ?_
              refine g_aload_n X dX11_ring_91 rfl ?_
              refine g_get X uwX11 0 rfl rfl 26 (by decide) kl_X11_55 rfl rfl gwX11 dX11_ring_92 ?_
              refine g_iload X dX11_ring_95 rfl ?_
              refine g_iald' X 4 rfl (i := ix) rfl (by omega) (by omega) dX11_ring_97 ?_
              refine g_toe (x' := nI (ordN (dgR n y) ix)) (hor_18 _ (by omega)) ?_
              refine g_callVv X (c_X11_teachOn V mm mtx mnu mrc mrw mrl mki mwa mle mno mtr mse mba mim msi mfo mor mbo mma mbm mso le_ po_ fa_ rcl_ rle_ n ls_ ba_ km_ si_ fm_ k day wr g mtr (ordN (dgR n y) (ix - 1)) (ordN (dgR n y) ix) (by omega) (ord_R2 n (by omega) h1n y (by omega) _ (by omega)) (ord_R2 n (by omega) h1n y (by omega) _ (by omega)) hBr) mo_X11_teachOn kl_X11_154 [0, 1, 3] [1, 2, 0, 3, 0, 0] rfl (by decide +kernel) rfl rfl (fun _ => Nat.le_of_ble_eq_true rfl) 0 11 rfl rfl (As := [.ref mtr, .int (nI (ordN (dgR n y) (ix - 1))), .int (nI (ordN (dgR n y) ix))]) (st := []) (cs' := (0, 0)) rfl rfl rfl rfl dX11_ring_98 (fun nw_40 hp_41 ws_43 hw_42 => ?_)
              obtain rfl : nw_40 = learnF k day (ordN (dgR n y) (ix - 1)) (ordN (dgR n y) ix) wr := hp_41
              have hw_42x : ws_43 = [(mm, .inr (11, [.int le_, .ref mtx, .int po_, .ref mnu, .int fa_, .int rcl_, .int rle_, .ref mrc, .ref mrw, .ref mrl, .int (nI n), .ref mki, .ref mwa, .int ls_, .ref mle, .ref mno, .ref mtr, .ref mse, .ref mba, .int ba_, .ref mim, .int km_, .int si_, .ref msi, .ref mfo, .int fm_, .ref mor, .ref mbo, .ref mma, .ref mbm, .ref mso])), (mki, .inl (V.2.2.1, 7, .inl k)), (mno, .inl (V.2.2.1, 15, .inl (stF day w g))), (mtr, .inl (V.2.2.1, 15, .inl (stF day (learnF k day (ordN (dgR n y) (ix - 1)) (ordN (dgR n y) ix) wr) g))), (mor, .inl (V.2.2.1, 7, .inl no_13)), (mbo, .inl (V.2.2.1, 7, .inl bo1))] := hw_42.symm
              clear hw_42; subst hw_42x
              refine g_iinc X (v := nI (ix + 1)) (L' := [some (.ref mm), some (.int 0), some (.int (nI (waysR n))), some (.int sm), some (.int (nI y)), some (.int (nI (ix + 1))), none]) dX11_ring_101 rfl (nI_addk (by decide)) (by decide) rfl rfl ?_
              refine g_goto X 68 dX11_ring_104 (by decide) ?_
              exact ih68 (ix + 1) (by omega) (learnF k day (ordN (dgR n y) (ix - 1)) (ordN (dgR n y) ix) wr) (by omega) (Bd_learn hBr) (by rw [ringW_s, if_neg (by omega), ← hwr])
          exact loop68_24 (n - 1) 1 (by omega) w (Nat.le_refl _) hB rfl
      exact loop40_9 (waysR n) 0 (by omega) (-4) tr or bo rfl (fun h => absurd h (Nat.lt_irrefl _))
    | succ d16 ih16 =>
      intro i hi mn hi2 hmn
      refine g_iload_n X dX11_ring_16 rfl ?_
      refine g_aload_n X dX11_ring_17 rfl ?_
      refine g_get X uwX11 0 rfl rfl 10 (by decide) kl_X11_91 rfl rfl gwX11 dX11_ring_18 ?_
      refine g_icmp_ge X 34 dX11_ring_21 (by decide) (fun c21_45 => absurd c21_45 (fge (a := i) (b := n) (by omega) (by omega) (by omega))) (fun c21_45 => ?_)
      refine g_iload_n X dX11_ring_24 rfl ?_
      refine g_iload_n X dX11_ring_25 rfl ?_
      refine g_imul X dX11_ring_26 ?_
      refine g_toe (x' := nI (mn * i)) (nI_mul' rfl rfl) ?_
      refine g_istore_n X (L' := [some (.ref mm), some (.int 0), some (.int (nI (mn * i))), some (.int (nI i)), none, none, none]) dX11_ring_27 (by decide) rfl rfl ?_
      refine g_iinc X (v := nI (i + 1)) (L' := [some (.ref mm), some (.int 0), some (.int (nI (mn * i))), some (.int (nI (i + 1))), none, none, none]) dX11_ring_28 rfl (nI_addk (by decide)) (by decide) rfl rfl ?_
      refine g_goto X 16 dX11_ring_31 (by decide) ?_
      exact ih16 (i + 1) (by omega) (mn * i) (by omega) (fa_st (by omega) hmn)
  exact loop16_7 (2 + (n - 2) - 2) 2 (by omega) 1 (Nat.le_refl _) rfl

set_option maxHeartbeats 4000000 in
set_option maxRecDepth 100000 in
theorem w_ring_k (V : gV) (mm : Nat) (mtx : Nat) (mnu : Nat) (mrc : Nat) (mrw : Nat) (mrl : Nat) (mki : Nat) (mwa : Nat) (mle : Nat) (mno : Nat) (mtr : Nat) (mse : Nat) (mba : Nat) (mim : Nat) (msi : Nat) (mfo : Nat) (mor : Nat) (mbo : Nat) (mma : Nat) (mbm : Nat) (mso : Nat) (le_ : Int32) (po_ : Int32) (fa_ : Int32) (rcl_ : Int32) (rle_ : Int32) (n : Nat) (ls_ : Int32) (ba_ : Int32) (km_ : Int32) (si_ : Int32) (fm_ : Int32) (k : Nat → Int32) (day : Int32) (w : Nat → Int32) (g : Nat → Int32) (tr : Nat → Int32) (or : Nat → Int32) (bo : Nat → Int32) (kk : Nat) (hn : n ≤ 7) (h1n : 1 ≤ n) (hB : Bd n w) (hkk : 1 ≤ kk ∧ kk ≤ n) : Ki V yX11_ring cX11_ring 7 .int ({ frames := 2, cells := 0, slots := 0, locals := 48 }) [.ref mm, .int (nI kk)] [(mm, .inr (11, [.int le_, .ref mtx, .int po_, .ref mnu, .int fa_, .int rcl_, .int rle_, .ref mrc, .ref mrw, .ref mrl, .int (nI n), .ref mki, .ref mwa, .int ls_, .ref mle, .ref mno, .ref mtr, .ref mse, .ref mba, .int ba_, .ref mim, .int km_, .int si_, .ref msi, .ref mfo, .int fm_, .ref mor, .ref mbo, .ref mma, .ref mbm, .ref mso])), (mki, .inl (V.2.2.1, 7, .inl k)), (mno, .inl (V.2.2.1, 15, .inl (stF day w g))), (mtr, .inl (V.2.2.1, 15, .inl tr)), (mor, .inl (V.2.2.1, 7, .inl or)), (mbo, .inl (V.2.2.1, 7, .inl bo))] (fun (r : Int32) (u : (Nat → Int32) × (Nat → Int32) × (Nat → Int32)) => r = nI ((bestR k day n w (waysR n)).2 (kk - 1))) (fun u => [(mm, .inr (11, [.int le_, .ref mtx, .int po_, .ref mnu, .int fa_, .int rcl_, .int rle_, .ref mrc, .ref mrw, .ref mrl, .int (nI n), .ref mki, .ref mwa, .int ls_, .ref mle, .ref mno, .ref mtr, .ref mse, .ref mba, .int ba_, .ref mim, .int km_, .int si_, .ref msi, .ref mfo, .int fm_, .ref mor, .ref mbo, .ref mma, .ref mbm, .ref mso])), (mki, .inl (V.2.2.1, 7, .inl k)), (mno, .inl (V.2.2.1, 15, .inl (stF day w g))), (mtr, .inl (V.2.2.1, 15, .inl u.1)), (mor, .inl (V.2.2.1, 7, .inl u.2.1)), (mbo, .inl (V.2.2.1, 7, .inl u.2.2))]) := by
  refine Ki.of [some (.ref mm), some (.int (nI kk)), none, none, none, none, none] (by decide) (Nat.le_of_ble_eq_true rfl) rfl rfl ?_
  intro Z X E
  have X : gX V Z RX11 cX11_ring 7 ({ frames := 2, cells := 0, slots := 0, locals := 48 }) := X
  have hw7 := ways_R n (by omega) h1n
  refine g_iload_n X dX11_ring_0 rfl ?_
  refine g_iconst X (0) dX11_ring_1 (by decide) ?_
  refine g_bipush X (7) dX11_ring_2 (by decide) ?_
  refine g_callSi X (c_X11_in V (nI kk) 0 7) mo_X11_in kl_X11_94 [] [0, 0, 0, 0, 0, 0] rfl (by decide +kernel) rfl rfl (fun _ => Nat.le_of_ble_eq_true rfl) (As := [.int (nI kk), .int 0, .int 7]) (st := []) (cs' := (0, 0)) rfl rfl rfl dX11_ring_4 (fun r_5 u_1 hp_2 ws_4 hw_3 => ?_)
  obtain rfl : r_5 = inF (nI kk) 0 7 := hp_2
  have hw_3x : ws_4 = [(mm, .inr (11, [.int le_, .ref mtx, .int po_, .ref mnu, .int fa_, .int rcl_, .int rle_, .ref mrc, .ref mrw, .ref mrl, .int (nI n), .ref mki, .ref mwa, .int ls_, .ref mle, .ref mno, .ref mtr, .ref mse, .ref mba, .int ba_, .ref mim, .int km_, .int si_, .ref msi, .ref mfo, .int fm_, .ref mor, .ref mbo, .ref mma, .ref mbm, .ref mso])), (mki, .inl (V.2.2.1, 7, .inl k)), (mno, .inl (V.2.2.1, 15, .inl (stF day w g))), (mtr, .inl (V.2.2.1, 15, .inl tr)), (mor, .inl (V.2.2.1, 7, .inl or)), (mbo, .inl (V.2.2.1, 7, .inl bo))] := hw_3.symm
  clear hw_3; subst hw_3x
  refine g_if_ne X 12 dX11_ring_7 (by decide) (fun c7_6 => ?_) (fun c7_6 => absurd c7_6 (inF_ne (v := kk) (lo := 0) (hi := 7) (by omega) (by omega)))
  refine g_iconst X (1) dX11_ring_12 (by decide) ?_
  refine g_istore_n X (L' := [some (.ref mm), some (.int (nI kk)), some (.int 1), none, none, none, none]) dX11_ring_13 (by decide) rfl rfl ?_
  refine g_iconst X (2) dX11_ring_14 (by decide) ?_
  refine g_istore_n X (L' := [some (.ref mm), some (.int (nI kk)), some (.int 1), some (.int 2), none, none, none]) dX11_ring_15 (by decide) rfl rfl ?_
  have loop16_7 : ∀ (d16 i : Nat), i + d16 = 2 + (n - 2) → ∀ (mn : Nat) (hi2 : 2 ≤ i) (hmn : mn = fa (i - 1)), G V Z 7 (0, 0) [(mm, .inr (11, [.int le_, .ref mtx, .int po_, .ref mnu, .int fa_, .int rcl_, .int rle_, .ref mrc, .ref mrw, .ref mrl, .int (nI n), .ref mki, .ref mwa, .int ls_, .ref mle, .ref mno, .ref mtr, .ref mse, .ref mba, .int ba_, .ref mim, .int km_, .int si_, .ref msi, .ref mfo, .int fm_, .ref mor, .ref mbo, .ref mma, .ref mbm, .ref mso])), (mki, .inl (V.2.2.1, 7, .inl k)), (mno, .inl (V.2.2.1, 15, .inl (stF day w g))), (mtr, .inl (V.2.2.1, 15, .inl tr)), (mor, .inl (V.2.2.1, 7, .inl or)), (mbo, .inl (V.2.2.1, 7, .inl bo))] 16 [some (.ref mm), some (.int (nI kk)), some (.int (nI mn)), some (.int (nI i)), none, none, none] [] := by
    intro d16
    induction d16 with
    | zero =>
      intro i hi mn hi2 hmn
      refine g_iload_n X dX11_ring_16 rfl ?_
      refine g_aload_n X dX11_ring_17 rfl ?_
      refine g_get X uwX11 0 rfl rfl 10 (by decide) kl_X11_91 rfl rfl gwX11 dX11_ring_18 ?_
      refine g_icmp_ge X 34 dX11_ring_21 (by decide) (fun c21_8 => ?_) (fun c21_8 => absurd (tge (a := i) (b := n) (by omega) (by omega) (by omega)) c21_8)
      obtain rfl : mn = waysR n := (by have e : i = 2 + (n - 2) := (by omega); subst e; rw [hmn]; exact (fa_2 n (by omega) h1n).2)
      refine g_bipush X (-4) dX11_ring_34 (by decide) ?_
      refine g_istore_n X (L' := [some (.ref mm), some (.int (nI kk)), some (.int (nI (waysR n))), some (.int (-4)), none, none, none]) dX11_ring_36 (by decide) rfl rfl ?_
      refine g_iconst X (0) dX11_ring_37 (by decide) ?_
      refine g_istore X (L' := [some (.ref mm), some (.int (nI kk)), some (.int (nI (waysR n))), some (.int (-4)), some (.int 0), none, none]) dX11_ring_38 (by decide) rfl rfl ?_
      have loop40_9 : ∀ (d40 y : Nat), y + d40 = waysR n → ∀ (sm : Int32) (tr1 : Nat → Int32) (or1 : Nat → Int32) (bo1 : Nat → Int32) (hs : sm = (bestR k day n w y).1) (hbo : 0 < y → ∀ j, j < n → bo1 j = nI ((bestR k day n w y).2 j)), G V Z 7 (0, 0) [(mm, .inr (11, [.int le_, .ref mtx, .int po_, .ref mnu, .int fa_, .int rcl_, .int rle_, .ref mrc, .ref mrw, .ref mrl, .int (nI n), .ref mki, .ref mwa, .int ls_, .ref mle, .ref mno, .ref mtr, .ref mse, .ref mba, .int ba_, .ref mim, .int km_, .int si_, .ref msi, .ref mfo, .int fm_, .ref mor, .ref mbo, .ref mma, .ref mbm, .ref mso])), (mki, .inl (V.2.2.1, 7, .inl k)), (mno, .inl (V.2.2.1, 15, .inl (stF day w g))), (mtr, .inl (V.2.2.1, 15, .inl tr1)), (mor, .inl (V.2.2.1, 7, .inl or1)), (mbo, .inl (V.2.2.1, 7, .inl bo1))] 40 [some (.ref mm), some (.int (nI kk)), some (.int (nI (waysR n))), some (.int sm), some (.int (nI y)), none, none] [] := by
        intro d40
        induction d40 with
        | zero =>
          intro y hy sm tr1 or1 bo1 hs hbo
          refine g_iload X dX11_ring_40 rfl ?_
          refine g_iload_n X dX11_ring_42 rfl ?_
          refine g_icmp_ge X 168 dX11_ring_43 (by decide) (fun c43_10 => ?_) (fun c43_10 => absurd (tge (a := y) (b := waysR n) (by omega) (by omega) (by omega)) c43_10)
          refine g_iload_n X dX11_ring_168 rfl ?_
          refine g_if_ne X 176 dX11_ring_169 (by decide) (fun c169_11 => ?_) (fun c169_11 => absurd c169_11 (tne (a := kk) (b := 0) (by omega) (by omega) (by omega)))
          refine g_iload_n X dX11_ring_176 rfl ?_
          refine g_aload_n X dX11_ring_177 rfl ?_
          refine g_get X uwX11 0 rfl rfl 10 (by decide) kl_X11_91 rfl rfl gwX11 dX11_ring_178 ?_
          refine g_icmp_gt X 195 dX11_ring_181 (by decide) (fun c181_12 => absurd c181_12 (fgt (a := kk) (b := n) (by omega) (by omega) (by omega))) (fun c181_12 => ?_)
          refine g_aload_n X dX11_ring_184 rfl ?_
          refine g_get X uwX11 0 rfl rfl 27 (by decide) kl_X11_58 rfl rfl gwX11 dX11_ring_185 ?_
          refine g_iload_n X dX11_ring_188 rfl ?_
          refine g_iconst X (1) dX11_ring_189 (by decide) ?_
          refine g_isub X dX11_ring_190 ?_
          refine g_toe (x' := nI (kk - 1)) (nI_sub' rfl rfl (by omega)) ?_
          refine g_iald' X 5 rfl (i := (kk - 1)) rfl (by omega) (by omega) dX11_ring_191 ?_
          refine g_goto X 197 dX11_ring_192 (by decide) ?_
          exact g_iret X E dX11_ring_197 ⟨tr1, or1, bo1⟩ (bo1 (kk - 1)) (by have e : y = waysR n := (by omega); subst e; exact hbo (by omega) _ (by omega)) rfl
        | succ d40 ih40 =>
          intro y hy sm tr1 or1 bo1 hs hbo
          refine g_iload X dX11_ring_40 rfl ?_
          refine g_iload_n X dX11_ring_42 rfl ?_
          refine g_icmp_ge X 168 dX11_ring_43 (by decide) (fun c43_13 => absurd c43_13 (fge (a := y) (b := waysR n) (by omega) (by omega) (by omega))) (fun c43_13 => ?_)
          refine g_aload_n X dX11_ring_46 rfl ?_
          refine g_iload X dX11_ring_47 rfl ?_
          refine g_callVv X (c_X11_layOrder V mm mtx mnu mrc mrw mrl mki mwa mle mno mtr mse mba mim msi mfo mor mbo mma mbm mso le_ po_ fa_ rcl_ rle_ n ls_ ba_ km_ si_ fm_ or1 y (by omega) (by omega) (by omega)) mo_X11_layOrder kl_X11_189 [0, 4] [1, 0, 0, 0, 2, 0] rfl (by decide +kernel) rfl rfl (fun _ => Nat.le_of_ble_eq_true rfl) 0 11 rfl rfl (As := [.int (nI y)]) (st := []) (cs' := (0, 0)) rfl rfl rfl rfl dX11_ring_49 (fun no_14 hp_15 ws_17 hw_16 => ?_)
          have hor_19 : (∀ j, j < n → no_14 j = nI (ordN (dgR n y) j)) := hp_15
          have hw_16x : ws_17 = [(mm, .inr (11, [.int le_, .ref mtx, .int po_, .ref mnu, .int fa_, .int rcl_, .int rle_, .ref mrc, .ref mrw, .ref mrl, .int (nI n), .ref mki, .ref mwa, .int ls_, .ref mle, .ref mno, .ref mtr, .ref mse, .ref mba, .int ba_, .ref mim, .int km_, .int si_, .ref msi, .ref mfo, .int fm_, .ref mor, .ref mbo, .ref mma, .ref mbm, .ref mso])), (mki, .inl (V.2.2.1, 7, .inl k)), (mno, .inl (V.2.2.1, 15, .inl (stF day w g))), (mtr, .inl (V.2.2.1, 15, .inl tr1)), (mor, .inl (V.2.2.1, 7, .inl no_14)), (mbo, .inl (V.2.2.1, 7, .inl bo1))] := hw_16.symm
          clear hw_16; subst hw_16x
          refine g_aload_n X dX11_ring_52 rfl ?_
          refine g_get X uwX11 0 rfl rfl 15 (by decide) kl_X11_34 rfl rfl gwX11 dX11_ring_53 ?_
          refine g_iconst X (0) dX11_ring_56 (by decide) ?_
          refine g_aload_n X dX11_ring_57 rfl ?_
          refine g_get X uwX11 0 rfl rfl 16 (by decide) kl_X11_37 rfl rfl gwX11 dX11_ring_58 ?_
          refine g_iconst X (0) dX11_ring_61 (by decide) ?_
          refine g_callSv X (c_X11_copy V mno 15 (stF day w g) mtr 15 tr1 0 0 (by omega) (by omega) (by omega) (by omega)) mo_X11_copy kl_X11_165 [2, 3] [0, 0, 1, 2, 0, 0] rfl (by decide +kernel) rfl rfl (fun _ => Nat.le_of_ble_eq_true rfl) (As := [.ref mno, .int 0, .ref mtr, .int 0]) (st := []) (cs' := (0, 0)) rfl rfl rfl dX11_ring_62 (fun u_20 hp_21 ws_23 hw_22 => ?_)
          have hw_22x : ws_23 = [(mm, .inr (11, [.int le_, .ref mtx, .int po_, .ref mnu, .int fa_, .int rcl_, .int rle_, .ref mrc, .ref mrw, .ref mrl, .int (nI n), .ref mki, .ref mwa, .int ls_, .ref mle, .ref mno, .ref mtr, .ref mse, .ref mba, .int ba_, .ref mim, .int km_, .int si_, .ref msi, .ref mfo, .int fm_, .ref mor, .ref mbo, .ref mma, .ref mbm, .ref mso])), (mki, .inl (V.2.2.1, 7, .inl k)), (mno, .inl (V.2.2.1, 15, .inl (stF day w g))), (mtr, .inl (V.2.2.1, 15, .inl (cpM 0 0 (stF day w g) tr1))), (mor, .inl (V.2.2.1, 7, .inl no_14)), (mbo, .inl (V.2.2.1, 7, .inl bo1))] := hw_22.symm
          clear hw_22; subst hw_22x
          refine g_arr 3 (stF day w g) rfl cpM_0 (ws' := [(mm, .inr (11, [.int le_, .ref mtx, .int po_, .ref mnu, .int fa_, .int rcl_, .int rle_, .ref mrc, .ref mrw, .ref mrl, .int (nI n), .ref mki, .ref mwa, .int ls_, .ref mle, .ref mno, .ref mtr, .ref mse, .ref mba, .int ba_, .ref mim, .int km_, .int si_, .ref msi, .ref mfo, .int fm_, .ref mor, .ref mbo, .ref mma, .ref mbm, .ref mso])), (mki, .inl (V.2.2.1, 7, .inl k)), (mno, .inl (V.2.2.1, 15, .inl (stF day w g))), (mtr, .inl (V.2.2.1, 15, .inl (stF day w g))), (mor, .inl (V.2.2.1, 7, .inl no_14)), (mbo, .inl (V.2.2.1, 7, .inl bo1))]) rfl ?_
          refine g_iconst X (1) dX11_ring_65 (by decide) ?_
          refine g_istore X (L' := [some (.ref mm), some (.int (nI kk)), some (.int (nI (waysR n))), some (.int sm), some (.int (nI y)), some (.int 1), none]) dX11_ring_66 (by decide) rfl rfl ?_
          have loop68_25 : ∀ (d68 ix : Nat), ix + d68 = n → ∀ (wr : Nat → Int32) (h1x : 1 ≤ ix) (hBr : Bd n wr) (hwr : wr = ringW k day (ordN (dgR n y)) ix w), G V Z 7 (0, 0) [(mm, .inr (11, [.int le_, .ref mtx, .int po_, .ref mnu, .int fa_, .int rcl_, .int rle_, .ref mrc, .ref mrw, .ref mrl, .int (nI n), .ref mki, .ref mwa, .int ls_, .ref mle, .ref mno, .ref mtr, .ref mse, .ref mba, .int ba_, .ref mim, .int km_, .int si_, .ref msi, .ref mfo, .int fm_, .ref mor, .ref mbo, .ref mma, .ref mbm, .ref mso])), (mki, .inl (V.2.2.1, 7, .inl k)), (mno, .inl (V.2.2.1, 15, .inl (stF day w g))), (mtr, .inl (V.2.2.1, 15, .inl (stF day wr g))), (mor, .inl (V.2.2.1, 7, .inl no_14)), (mbo, .inl (V.2.2.1, 7, .inl bo1))] 68 [some (.ref mm), some (.int (nI kk)), some (.int (nI (waysR n))), some (.int sm), some (.int (nI y)), some (.int (nI ix)), none] [] := by
            intro d68
            induction d68 with
            | zero =>
              intro ix hix wr h1x hBr hwr
              refine g_iload X dX11_ring_68 rfl ?_
              refine g_aload_n X dX11_ring_70 rfl ?_
              refine g_get X uwX11 0 rfl rfl 10 (by decide) kl_X11_91 rfl rfl gwX11 dX11_ring_71 ?_
              refine g_icmp_ge X 107 dX11_ring_74 (by decide) (fun c74_26 => ?_) (fun c74_26 => absurd (tge (a := ix) (b := n) (by omega) (by omega) (by omega)) c74_26)
              refine g_aload_n X dX11_ring_107 rfl ?_
              refine g_aload_n X dX11_ring_108 rfl ?_
              refine g_get X uwX11 0 rfl rfl 16 (by decide) kl_X11_37 rfl rfl gwX11 dX11_ring_109 ?_
              refine g_callVi X (c_X11_allWrong V mm mtx mnu mrc mrw mrl mki mwa mle mno mtr mse mba mim msi mfo mor mbo mma mbm mso le_ po_ fa_ rcl_ rle_ n ls_ ba_ km_ si_ fm_ day wr g mtr (by omega)) mo_X11_allWrong kl_X11_192 [0, 3] [1, 0, 0, 2, 0, 0] rfl (by decide +kernel) rfl rfl (fun _ => Nat.le_of_ble_eq_true rfl) 0 11 rfl rfl (As := [.ref mtr]) (st := []) (cs' := (0, 0)) rfl rfl rfl rfl dX11_ring_112 (fun r_31 u_27 hp_28 ws_30 hw_29 => ?_)
              obtain rfl : r_31 = togF n wr := hp_28
              have hw_29x : ws_30 = [(mm, .inr (11, [.int le_, .ref mtx, .int po_, .ref mnu, .int fa_, .int rcl_, .int rle_, .ref mrc, .ref mrw, .ref mrl, .int (nI n), .ref mki, .ref mwa, .int ls_, .ref mle, .ref mno, .ref mtr, .ref mse, .ref mba, .int ba_, .ref mim, .int km_, .int si_, .ref msi, .ref mfo, .int fm_, .ref mor, .ref mbo, .ref mma, .ref mbm, .ref mso])), (mki, .inl (V.2.2.1, 7, .inl k)), (mno, .inl (V.2.2.1, 15, .inl (stF day w g))), (mtr, .inl (V.2.2.1, 15, .inl (stF day wr g))), (mor, .inl (V.2.2.1, 7, .inl no_14)), (mbo, .inl (V.2.2.1, 7, .inl bo1))] := hw_29.symm
              clear hw_29; subst hw_29x
              refine g_istore X (L' := [some (.ref mm), some (.int (nI kk)), some (.int (nI (waysR n))), some (.int sm), some (.int (nI y)), some (.int (togF n wr)), none]) dX11_ring_115 (by decide) rfl rfl ?_
              refine g_iload_n X dX11_ring_117 rfl ?_
              refine g_if_lt X 127 dX11_ring_118 (by decide) (fun c118_32 => ?_) (fun c118_32 => ?_)
              · have c118_32d := Int32.not_le.mpr c118_32
                have hbb := bR_T hs (by have e : ix = n := (by omega); subst e; exact hwr) (br_b (by rw [hs]; exact best_pos hn hB y) (Or.inl c118_32))
                refine g_iload X dX11_ring_127 rfl ?_
                refine g_istore_n X (L' := [some (.ref mm), some (.int (nI kk)), some (.int (nI (waysR n))), some (.int (togF n wr)), some (.int (nI y)), some (.int (togF n wr)), none]) dX11_ring_129 (by decide) rfl rfl ?_
                refine g_iconst X (0) dX11_ring_130 (by decide) ?_
                refine g_istore X (L' := [some (.ref mm), some (.int (nI kk)), some (.int (nI (waysR n))), some (.int (togF n wr)), some (.int (nI y)), some (.int (togF n wr)), some (.int 0)]) dX11_ring_131 (by decide) rfl rfl ?_
                have loop133_33 : ∀ (d133 ix2 : Nat), ix2 + d133 = n → ∀ (bo2 : Nat → Int32) (hb2 : ∀ j, j < ix2 → bo2 j = no_14 j), G V Z 7 (0, 0) [(mm, .inr (11, [.int le_, .ref mtx, .int po_, .ref mnu, .int fa_, .int rcl_, .int rle_, .ref mrc, .ref mrw, .ref mrl, .int (nI n), .ref mki, .ref mwa, .int ls_, .ref mle, .ref mno, .ref mtr, .ref mse, .ref mba, .int ba_, .ref mim, .int km_, .int si_, .ref msi, .ref mfo, .int fm_, .ref mor, .ref mbo, .ref mma, .ref mbm, .ref mso])), (mki, .inl (V.2.2.1, 7, .inl k)), (mno, .inl (V.2.2.1, 15, .inl (stF day w g))), (mtr, .inl (V.2.2.1, 15, .inl (stF day wr g))), (mor, .inl (V.2.2.1, 7, .inl no_14)), (mbo, .inl (V.2.2.1, 7, .inl bo2))] 133 [some (.ref mm), some (.int (nI kk)), some (.int (nI (waysR n))), some (.int (togF n wr)), some (.int (nI y)), some (.int (togF n wr)), some (.int (nI ix2))] [] := by
                  intro d133
                  induction d133 with
                  | zero =>
                    intro ix2 hix2 bo2 hb2
                    refine g_iload X dX11_ring_133 rfl ?_
                    refine g_aload_n X dX11_ring_135 rfl ?_
                    refine g_get X uwX11 0 rfl rfl 10 (by decide) kl_X11_91 rfl rfl gwX11 dX11_ring_136 ?_
                    refine g_icmp_ge X 162 dX11_ring_139 (by decide) (fun c139_34 => ?_) (fun c139_34 => absurd (tge (a := ix2) (b := n) (by omega) (by omega) (by omega)) c139_34)
                    refine g_iinc X (v := nI (y + 1)) (L' := [some (.ref mm), some (.int (nI kk)), some (.int (nI (waysR n))), some (.int (togF n wr)), some (.int (nI (y + 1))), some (.int (togF n wr)), some (.int (nI ix2))]) dX11_ring_162 rfl (nI_addk (by decide)) (by decide) rfl rfl ?_
                    refine g_goto X 40 dX11_ring_165 (by decide) ?_
                    refine g_sub (L' := [some (.ref mm), some (.int (nI kk)), some (.int (nI (waysR n))), some (.int (togF n wr)), some (.int (nI (y + 1))), none, none]) ⟨rfl, ⟨rfl, ⟨rfl, ⟨rfl, ⟨rfl, trivial⟩⟩⟩⟩⟩ ?_
                    exact ih40 (y + 1) (by omega) (togF n wr) (stF day wr g) no_14 bo2 hbb.1 (fun _ j hj => by rw [hbb.2, hb2 j (by omega)]; exact hor_19 j hj)
                  | succ d133 ih133 =>
                    intro ix2 hix2 bo2 hb2
                    refine g_iload X dX11_ring_133 rfl ?_
                    refine g_aload_n X dX11_ring_135 rfl ?_
                    refine g_get X uwX11 0 rfl rfl 10 (by decide) kl_X11_91 rfl rfl gwX11 dX11_ring_136 ?_
                    refine g_icmp_ge X 162 dX11_ring_139 (by decide) (fun c139_35 => absurd c139_35 (fge (a := ix2) (b := n) (by omega) (by omega) (by omega))) (fun c139_35 => ?_)
                    refine g_aload_n X dX11_ring_142 rfl ?_
                    refine g_get X uwX11 0 rfl rfl 27 (by decide) kl_X11_58 rfl rfl gwX11 dX11_ring_143 ?_
                    refine g_iload X dX11_ring_146 rfl ?_
                    refine g_aload_n X dX11_ring_148 rfl ?_
                    refine g_get X uwX11 0 rfl rfl 26 (by decide) kl_X11_55 rfl rfl gwX11 dX11_ring_149 ?_
                    refine g_iload X dX11_ring_152 rfl ?_
                    refine g_iald' X 4 rfl (i := ix2) rfl (by omega) (by omega) dX11_ring_154 ?_
                    refine g_iast' X 5 rfl (i := ix2) rfl (by omega) (by omega) (ws' := [(mm, .inr (11, [.int le_, .ref mtx, .int po_, .ref mnu, .int fa_, .int rcl_, .int rle_, .ref mrc, .ref mrw, .ref mrl, .int (nI n), .ref mki, .ref mwa, .int ls_, .ref mle, .ref mno, .ref mtr, .ref mse, .ref mba, .int ba_, .ref mim, .int km_, .int si_, .ref msi, .ref mfo, .int fm_, .ref mor, .ref mbo, .ref mma, .ref mbm, .ref mso])), (mki, .inl (V.2.2.1, 7, .inl k)), (mno, .inl (V.2.2.1, 15, .inl (stF day w g))), (mtr, .inl (V.2.2.1, 15, .inl (stF day wr g))), (mor, .inl (V.2.2.1, 7, .inl no_14)), (mbo, .inl (V.2.2.1, 7, .inl (upd bo2 ix2 (no_14 ix2))))]) rfl dX11_ring_155 ?_
                    refine g_iinc X (v := nI (ix2 + 1)) (L' := [some (.ref mm), some (.int (nI kk)), some (.int (nI (waysR n))), some (.int (togF n wr)), some (.int (nI y)), some (.int (togF n wr)), some (.int (nI (ix2 + 1)))]) dX11_ring_156 rfl (nI_addk (by decide)) (by decide) rfl rfl ?_
                    refine g_goto X 133 dX11_ring_159 (by decide) ?_
                    exact ih133 (ix2 + 1) (by omega) (upd bo2 ix2 (no_14 ix2)) (fun j hj => by
          by_cases e : j = ix2
          · rw [e, pk_us]
          · rw [pk_un e]; exact hb2 j (by omega))
                exact loop133_33 n 0 (by omega) bo1 (fun j h => absurd h (Nat.not_lt_zero _))
              · have c118_32d := Int32.not_lt.mp c118_32
                refine g_iload X dX11_ring_121 rfl ?_
                refine g_iload_n X dX11_ring_123 rfl ?_
                refine g_icmp_ge X 162 dX11_ring_124 (by decide) (fun c124_36 => ?_) (fun c124_36 => ?_)
                · have c124_36d := Int32.not_lt.mpr c124_36
                  have hbb := bR_F hs (by have e : ix = n := (by omega); subst e; exact hwr) (br_n (os := togF n wr) c118_32 (Int32.not_lt.mpr c124_36))
                  refine g_iinc X (v := nI (y + 1)) (L' := [some (.ref mm), some (.int (nI kk)), some (.int (nI (waysR n))), some (.int sm), some (.int (nI (y + 1))), some (.int (togF n wr)), none]) dX11_ring_162 rfl (nI_addk (by decide)) (by decide) rfl rfl ?_
                  refine g_goto X 40 dX11_ring_165 (by decide) ?_
                  refine g_sub (L' := [some (.ref mm), some (.int (nI kk)), some (.int (nI (waysR n))), some (.int sm), some (.int (nI (y + 1))), none, none]) ⟨rfl, ⟨rfl, ⟨rfl, ⟨rfl, ⟨rfl, trivial⟩⟩⟩⟩⟩ ?_
                  exact ih40 (y + 1) (by omega) sm (stF day wr g) no_14 bo1 hbb.1 (fun _ j hj => by rw [hbb.2]; exact hbo (bR_y hs (br_n (os := togF n wr) c118_32 (Int32.not_lt.mpr c124_36))) j hj)
                · have c124_36d := Int32.not_le.mp c124_36
                  have hbb := bR_T hs (by have e : ix = n := (by omega); subst e; exact hwr) (br_b (by rw [hs]; exact best_pos hn hB y) (Or.inr c124_36d))
                  refine g_iload X dX11_ring_127 rfl ?_
                  refine g_istore_n X (L' := [some (.ref mm), some (.int (nI kk)), some (.int (nI (waysR n))), some (.int (togF n wr)), some (.int (nI y)), some (.int (togF n wr)), none]) dX11_ring_129 (by decide) rfl rfl ?_
                  refine g_iconst X (0) dX11_ring_130 (by decide) ?_
                  refine g_istore X (L' := [some (.ref mm), some (.int (nI kk)), some (.int (nI (waysR n))), some (.int (togF n wr)), some (.int (nI y)), some (.int (togF n wr)), some (.int 0)]) dX11_ring_131 (by decide) rfl rfl ?_
                  have loop133_37 : ∀ (d133 ix2 : Nat), ix2 + d133 = n → ∀ (bo2 : Nat → Int32) (hb2 : ∀ j, j < ix2 → bo2 j = no_14 j), G V Z 7 (0, 0) [(mm, .inr (11, [.int le_, .ref mtx, .int po_, .ref mnu, .int fa_, .int rcl_, .int rle_, .ref mrc, .ref mrw, .ref mrl, .int (nI n), .ref mki, .ref mwa, .int ls_, .ref mle, .ref mno, .ref mtr, .ref mse, .ref mba, .int ba_, .ref mim, .int km_, .int si_, .ref msi, .ref mfo, .int fm_, .ref mor, .ref mbo, .ref mma, .ref mbm, .ref mso])), (mki, .inl (V.2.2.1, 7, .inl k)), (mno, .inl (V.2.2.1, 15, .inl (stF day w g))), (mtr, .inl (V.2.2.1, 15, .inl (stF day wr g))), (mor, .inl (V.2.2.1, 7, .inl no_14)), (mbo, .inl (V.2.2.1, 7, .inl bo2))] 133 [some (.ref mm), some (.int (nI kk)), some (.int (nI (waysR n))), some (.int (togF n wr)), some (.int (nI y)), some (.int (togF n wr)), some (.int (nI ix2))] [] := by
                    intro d133
                    induction d133 with
                    | zero =>
                      intro ix2 hix2 bo2 hb2
                      refine g_iload X dX11_ring_133 rfl ?_
                      refine g_aload_n X dX11_ring_135 rfl ?_
                      refine g_get X uwX11 0 rfl rfl 10 (by decide) kl_X11_91 rfl rfl gwX11 dX11_ring_136 ?_
                      refine g_icmp_ge X 162 dX11_ring_139 (by decide) (fun c139_38 => ?_) (fun c139_38 => absurd (tge (a := ix2) (b := n) (by omega) (by omega) (by omega)) c139_38)
                      refine g_iinc X (v := nI (y + 1)) (L' := [some (.ref mm), some (.int (nI kk)), some (.int (nI (waysR n))), some (.int (togF n wr)), some (.int (nI (y + 1))), some (.int (togF n wr)), some (.int (nI ix2))]) dX11_ring_162 rfl (nI_addk (by decide)) (by decide) rfl rfl ?_
                      refine g_goto X 40 dX11_ring_165 (by decide) ?_
                      refine g_sub (L' := [some (.ref mm), some (.int (nI kk)), some (.int (nI (waysR n))), some (.int (togF n wr)), some (.int (nI (y + 1))), none, none]) ⟨rfl, ⟨rfl, ⟨rfl, ⟨rfl, ⟨rfl, trivial⟩⟩⟩⟩⟩ ?_
                      exact ih40 (y + 1) (by omega) (togF n wr) (stF day wr g) no_14 bo2 hbb.1 (fun _ j hj => by rw [hbb.2, hb2 j (by omega)]; exact hor_19 j hj)
                    | succ d133 ih133 =>
                      intro ix2 hix2 bo2 hb2
                      refine g_iload X dX11_ring_133 rfl ?_
                      refine g_aload_n X dX11_ring_135 rfl ?_
                      refine g_get X uwX11 0 rfl rfl 10 (by decide) kl_X11_91 rfl rfl gwX11 dX11_ring_136 ?_
                      refine g_icmp_ge X 162 dX11_ring_139 (by decide) (fun c139_39 => absurd c139_39 (fge (a := ix2) (b := n) (by omega) (by omega) (by omega))) (fun c139_39 => ?_)
                      refine g_aload_n X dX11_ring_142 rfl ?_
                      refine g_get X uwX11 0 rfl rfl 27 (by decide) kl_X11_58 rfl rfl gwX11 dX11_ring_143 ?_
                      refine g_iload X dX11_ring_146 rfl ?_
                      refine g_aload_n X dX11_ring_148 rfl ?_
                      refine g_get X uwX11 0 rfl rfl 26 (by decide) kl_X11_55 rfl rfl gwX11 dX11_ring_149 ?_
                      refine g_iload X dX11_ring_152 rfl ?_
                      refine g_iald' X 4 rfl (i := ix2) rfl (by omega) (by omega) dX11_ring_154 ?_
                      refine g_iast' X 5 rfl (i := ix2) rfl (by omega) (by omega) (ws' := [(mm, .inr (11, [.int le_, .ref mtx, .int po_, .ref mnu, .int fa_, .int rcl_, .int rle_, .ref mrc, .ref mrw, .ref mrl, .int (nI n), .ref mki, .ref mwa, .int ls_, .ref mle, .ref mno, .ref mtr, .ref mse, .ref mba, .int ba_, .ref mim, .int km_, .int si_, .ref msi, .ref mfo, .int fm_, .ref mor, .ref mbo, .ref mma, .ref mbm, .ref mso])), (mki, .inl (V.2.2.1, 7, .inl k)), (mno, .inl (V.2.2.1, 15, .inl (stF day w g))), (mtr, .inl (V.2.2.1, 15, .inl (stF day wr g))), (mor, .inl (V.2.2.1, 7, .inl no_14)), (mbo, .inl (V.2.2.1, 7, .inl (upd bo2 ix2 (no_14 ix2))))]) rfl dX11_ring_155 ?_
                      refine g_iinc X (v := nI (ix2 + 1)) (L' := [some (.ref mm), some (.int (nI kk)), some (.int (nI (waysR n))), some (.int (togF n wr)), some (.int (nI y)), some (.int (togF n wr)), some (.int (nI (ix2 + 1)))]) dX11_ring_156 rfl (nI_addk (by decide)) (by decide) rfl rfl ?_
                      refine g_goto X 133 dX11_ring_159 (by decide) ?_
                      exact ih133 (ix2 + 1) (by omega) (upd bo2 ix2 (no_14 ix2)) (fun j hj => by
          by_cases e : j = ix2
          · rw [e, pk_us]
          · rw [pk_un e]; exact hb2 j (by omega))
                  exact loop133_37 n 0 (by omega) bo1 (fun j h => absurd h (Nat.not_lt_zero _))
            | succ d68 ih68 =>
              intro ix hix wr h1x hBr hwr
              refine g_iload X dX11_ring_68 rfl ?_
              refine g_aload_n X dX11_ring_70 rfl ?_
              refine g_get X uwX11 0 rfl rfl 10 (by decide) kl_X11_91 rfl rfl gwX11 dX11_ring_71 ?_
              refine g_icmp_ge X 107 dX11_ring_74 (by decide) (fun c74_40 => absurd c74_40 (fge (a := ix) (b := n) (by omega) (by omega) (by omega))) (fun c74_40 => ?_)
              refine g_aload_n X dX11_ring_77 rfl ?_
              refine g_aload_n X dX11_ring_78 rfl ?_
              refine g_get X uwX11 0 rfl rfl 16 (by decide) kl_X11_37 rfl rfl gwX11 dX11_ring_79 ?_
              refine g_aload_n X dX11_ring_82 rfl ?_
              refine g_get X uwX11 0 rfl rfl 26 (by decide) kl_X11_55 rfl rfl gwX11 dX11_ring_83 ?_
              refine g_iload X dX11_ring_86 rfl ?_
              refine g_iconst X (1) dX11_ring_88 (by decide) ?_
              refine g_isub X dX11_ring_89 ?_
              refine g_toe (x' := nI (ix - 1)) (nI_sub' rfl rfl (by omega)) ?_
              refine g_iald' X 4 rfl (i := (ix - 1)) rfl (by omega) (by omega) dX11_ring_90 ?_
              refine g_toe (x' := nI (ordN (dgR n y) (ix - 1))) (hor_19 _ (by omega)) ?_
              refine g_aload_n X dX11_ring_91 rfl ?_
              refine g_get X uwX11 0 rfl rfl 26 (by decide) kl_X11_55 rfl rfl gwX11 dX11_ring_92 ?_
              refine g_iload X dX11_ring_95 rfl ?_
              refine g_iald' X 4 rfl (i := ix) rfl (by omega) (by omega) dX11_ring_97 ?_
              refine g_toe (x' := nI (ordN (dgR n y) ix)) (hor_19 _ (by omega)) ?_
              refine g_callVv X (c_X11_teachOn V mm mtx mnu mrc mrw mrl mki mwa mle mno mtr mse mba mim msi mfo mor mbo mma mbm mso le_ po_ fa_ rcl_ rle_ n ls_ ba_ km_ si_ fm_ k day wr g mtr (ordN (dgR n y) (ix - 1)) (ordN (dgR n y) ix) (by omega) (ord_R2 n (by omega) h1n y (by omega) _ (by omega)) (ord_R2 n (by omega) h1n y (by omega) _ (by omega)) hBr) mo_X11_teachOn kl_X11_154 [0, 1, 3] [1, 2, 0, 3, 0, 0] rfl (by decide +kernel) rfl rfl (fun _ => Nat.le_of_ble_eq_true rfl) 0 11 rfl rfl (As := [.ref mtr, .int (nI (ordN (dgR n y) (ix - 1))), .int (nI (ordN (dgR n y) ix))]) (st := []) (cs' := (0, 0)) rfl rfl rfl rfl dX11_ring_98 (fun nw_41 hp_42 ws_44 hw_43 => ?_)
              obtain rfl : nw_41 = learnF k day (ordN (dgR n y) (ix - 1)) (ordN (dgR n y) ix) wr := hp_42
              have hw_43x : ws_44 = [(mm, .inr (11, [.int le_, .ref mtx, .int po_, .ref mnu, .int fa_, .int rcl_, .int rle_, .ref mrc, .ref mrw, .ref mrl, .int (nI n), .ref mki, .ref mwa, .int ls_, .ref mle, .ref mno, .ref mtr, .ref mse, .ref mba, .int ba_, .ref mim, .int km_, .int si_, .ref msi, .ref mfo, .int fm_, .ref mor, .ref mbo, .ref mma, .ref mbm, .ref mso])), (mki, .inl (V.2.2.1, 7, .inl k)), (mno, .inl (V.2.2.1, 15, .inl (stF day w g))), (mtr, .inl (V.2.2.1, 15, .inl (stF day (learnF k day (ordN (dgR n y) (ix - 1)) (ordN (dgR n y) ix) wr) g))), (mor, .inl (V.2.2.1, 7, .inl no_14)), (mbo, .inl (V.2.2.1, 7, .inl bo1))] := hw_43.symm
              clear hw_43; subst hw_43x
              refine g_iinc X (v := nI (ix + 1)) (L' := [some (.ref mm), some (.int (nI kk)), some (.int (nI (waysR n))), some (.int sm), some (.int (nI y)), some (.int (nI (ix + 1))), none]) dX11_ring_101 rfl (nI_addk (by decide)) (by decide) rfl rfl ?_
              refine g_goto X 68 dX11_ring_104 (by decide) ?_
              exact ih68 (ix + 1) (by omega) (learnF k day (ordN (dgR n y) (ix - 1)) (ordN (dgR n y) ix) wr) (by omega) (Bd_learn hBr) (by rw [ringW_s, if_neg (by omega), ← hwr])
          exact loop68_25 (n - 1) 1 (by omega) w (Nat.le_refl _) hB rfl
      exact loop40_9 (waysR n) 0 (by omega) (-4) tr or bo rfl (fun h => absurd h (Nat.lt_irrefl _))
    | succ d16 ih16 =>
      intro i hi mn hi2 hmn
      refine g_iload_n X dX11_ring_16 rfl ?_
      refine g_aload_n X dX11_ring_17 rfl ?_
      refine g_get X uwX11 0 rfl rfl 10 (by decide) kl_X11_91 rfl rfl gwX11 dX11_ring_18 ?_
      refine g_icmp_ge X 34 dX11_ring_21 (by decide) (fun c21_46 => absurd c21_46 (fge (a := i) (b := n) (by omega) (by omega) (by omega))) (fun c21_46 => ?_)
      refine g_iload_n X dX11_ring_24 rfl ?_
      refine g_iload_n X dX11_ring_25 rfl ?_
      refine g_imul X dX11_ring_26 ?_
      refine g_toe (x' := nI (mn * i)) (nI_mul' rfl rfl) ?_
      refine g_istore_n X (L' := [some (.ref mm), some (.int (nI kk)), some (.int (nI (mn * i))), some (.int (nI i)), none, none, none]) dX11_ring_27 (by decide) rfl rfl ?_
      refine g_iinc X (v := nI (i + 1)) (L' := [some (.ref mm), some (.int (nI kk)), some (.int (nI (mn * i))), some (.int (nI (i + 1))), none, none, none]) dX11_ring_28 rfl (nI_addk (by decide)) (by decide) rfl rfl ?_
      refine g_goto X 16 dX11_ring_31 (by decide) ?_
      exact ih16 (i + 1) (by omega) (mn * i) (by omega) (fa_st (by omega) hmn)
  exact loop16_7 (2 + (n - 2) - 2) 2 (by omega) 1 (Nat.le_refl _) rfl

set_option maxHeartbeats 4000000 in
set_option maxRecDepth 100000 in
theorem w_ring_none (V : gV) (mm : Nat) (mtx : Nat) (mnu : Nat) (mrc : Nat) (mrw : Nat) (mrl : Nat) (mki : Nat) (mwa : Nat) (mle : Nat) (mno : Nat) (mtr : Nat) (mse : Nat) (mba : Nat) (mim : Nat) (msi : Nat) (mfo : Nat) (mor : Nat) (mbo : Nat) (mma : Nat) (mbm : Nat) (mso : Nat) (le_ : Int32) (po_ : Int32) (fa_ : Int32) (rcl_ : Int32) (rle_ : Int32) (n : Nat) (ls_ : Int32) (ba_ : Int32) (km_ : Int32) (si_ : Int32) (fm_ : Int32) (k : Nat → Int32) (day : Int32) (w : Nat → Int32) (g : Nat → Int32) (tr : Nat → Int32) (or : Nat → Int32) (bo : Nat → Int32) (kk : Nat) (hn : n ≤ 7) (h1n : 1 ≤ n) (hB : Bd n w) (hkk : n < kk ∧ kk ≤ 7) : Ki V yX11_ring cX11_ring 7 .int ({ frames := 2, cells := 0, slots := 0, locals := 48 }) [.ref mm, .int (nI kk)] [(mm, .inr (11, [.int le_, .ref mtx, .int po_, .ref mnu, .int fa_, .int rcl_, .int rle_, .ref mrc, .ref mrw, .ref mrl, .int (nI n), .ref mki, .ref mwa, .int ls_, .ref mle, .ref mno, .ref mtr, .ref mse, .ref mba, .int ba_, .ref mim, .int km_, .int si_, .ref msi, .ref mfo, .int fm_, .ref mor, .ref mbo, .ref mma, .ref mbm, .ref mso])), (mki, .inl (V.2.2.1, 7, .inl k)), (mno, .inl (V.2.2.1, 15, .inl (stF day w g))), (mtr, .inl (V.2.2.1, 15, .inl tr)), (mor, .inl (V.2.2.1, 7, .inl or)), (mbo, .inl (V.2.2.1, 7, .inl bo))] (fun (r : Int32) (u : (Nat → Int32) × (Nat → Int32) × (Nat → Int32)) => r = -4) (fun u => [(mm, .inr (11, [.int le_, .ref mtx, .int po_, .ref mnu, .int fa_, .int rcl_, .int rle_, .ref mrc, .ref mrw, .ref mrl, .int (nI n), .ref mki, .ref mwa, .int ls_, .ref mle, .ref mno, .ref mtr, .ref mse, .ref mba, .int ba_, .ref mim, .int km_, .int si_, .ref msi, .ref mfo, .int fm_, .ref mor, .ref mbo, .ref mma, .ref mbm, .ref mso])), (mki, .inl (V.2.2.1, 7, .inl k)), (mno, .inl (V.2.2.1, 15, .inl (stF day w g))), (mtr, .inl (V.2.2.1, 15, .inl u.1)), (mor, .inl (V.2.2.1, 7, .inl u.2.1)), (mbo, .inl (V.2.2.1, 7, .inl u.2.2))]) := by
  refine Ki.of [some (.ref mm), some (.int (nI kk)), none, none, none, none, none] (by decide) (Nat.le_of_ble_eq_true rfl) rfl rfl ?_
  intro Z X E
  have X : gX V Z RX11 cX11_ring 7 ({ frames := 2, cells := 0, slots := 0, locals := 48 }) := X
  have hw7 := ways_R n (by omega) h1n
  refine g_iload_n X dX11_ring_0 rfl ?_
  refine g_iconst X (0) dX11_ring_1 (by decide) ?_
  refine g_bipush X (7) dX11_ring_2 (by decide) ?_
  refine g_callSi X (c_X11_in V (nI kk) 0 7) mo_X11_in kl_X11_94 [] [0, 0, 0, 0, 0, 0] rfl (by decide +kernel) rfl rfl (fun _ => Nat.le_of_ble_eq_true rfl) (As := [.int (nI kk), .int 0, .int 7]) (st := []) (cs' := (0, 0)) rfl rfl rfl dX11_ring_4 (fun r_5 u_1 hp_2 ws_4 hw_3 => ?_)
  obtain rfl : r_5 = inF (nI kk) 0 7 := hp_2
  have hw_3x : ws_4 = [(mm, .inr (11, [.int le_, .ref mtx, .int po_, .ref mnu, .int fa_, .int rcl_, .int rle_, .ref mrc, .ref mrw, .ref mrl, .int (nI n), .ref mki, .ref mwa, .int ls_, .ref mle, .ref mno, .ref mtr, .ref mse, .ref mba, .int ba_, .ref mim, .int km_, .int si_, .ref msi, .ref mfo, .int fm_, .ref mor, .ref mbo, .ref mma, .ref mbm, .ref mso])), (mki, .inl (V.2.2.1, 7, .inl k)), (mno, .inl (V.2.2.1, 15, .inl (stF day w g))), (mtr, .inl (V.2.2.1, 15, .inl tr)), (mor, .inl (V.2.2.1, 7, .inl or)), (mbo, .inl (V.2.2.1, 7, .inl bo))] := hw_3.symm
  clear hw_3; subst hw_3x
  refine g_if_ne X 12 dX11_ring_7 (by decide) (fun c7_6 => ?_) (fun c7_6 => absurd c7_6 (inF_ne (v := kk) (lo := 0) (hi := 7) (by omega) (by omega)))
  refine g_iconst X (1) dX11_ring_12 (by decide) ?_
  refine g_istore_n X (L' := [some (.ref mm), some (.int (nI kk)), some (.int 1), none, none, none, none]) dX11_ring_13 (by decide) rfl rfl ?_
  refine g_iconst X (2) dX11_ring_14 (by decide) ?_
  refine g_istore_n X (L' := [some (.ref mm), some (.int (nI kk)), some (.int 1), some (.int 2), none, none, none]) dX11_ring_15 (by decide) rfl rfl ?_
  have loop16_7 : ∀ (d16 i : Nat), i + d16 = 2 + (n - 2) → ∀ (mn : Nat) (hi2 : 2 ≤ i) (hmn : mn = fa (i - 1)), G V Z 7 (0, 0) [(mm, .inr (11, [.int le_, .ref mtx, .int po_, .ref mnu, .int fa_, .int rcl_, .int rle_, .ref mrc, .ref mrw, .ref mrl, .int (nI n), .ref mki, .ref mwa, .int ls_, .ref mle, .ref mno, .ref mtr, .ref mse, .ref mba, .int ba_, .ref mim, .int km_, .int si_, .ref msi, .ref mfo, .int fm_, .ref mor, .ref mbo, .ref mma, .ref mbm, .ref mso])), (mki, .inl (V.2.2.1, 7, .inl k)), (mno, .inl (V.2.2.1, 15, .inl (stF day w g))), (mtr, .inl (V.2.2.1, 15, .inl tr)), (mor, .inl (V.2.2.1, 7, .inl or)), (mbo, .inl (V.2.2.1, 7, .inl bo))] 16 [some (.ref mm), some (.int (nI kk)), some (.int (nI mn)), some (.int (nI i)), none, none, none] [] := by
    intro d16
    induction d16 with
    | zero =>
      intro i hi mn hi2 hmn
      refine g_iload_n X dX11_ring_16 rfl ?_
      refine g_aload_n X dX11_ring_17 rfl ?_
      refine g_get X uwX11 0 rfl rfl 10 (by decide) kl_X11_91 rfl rfl gwX11 dX11_ring_18 ?_
      refine g_icmp_ge X 34 dX11_ring_21 (by decide) (fun c21_8 => ?_) (fun c21_8 => absurd (tge (a := i) (b := n) (by omega) (by omega) (by omega)) c21_8)
      obtain rfl : mn = waysR n := (by have e : i = 2 + (n - 2) := (by omega); subst e; rw [hmn]; exact (fa_2 n (by omega) h1n).2)
      refine g_bipush X (-4) dX11_ring_34 (by decide) ?_
      refine g_istore_n X (L' := [some (.ref mm), some (.int (nI kk)), some (.int (nI (waysR n))), some (.int (-4)), none, none, none]) dX11_ring_36 (by decide) rfl rfl ?_
      refine g_iconst X (0) dX11_ring_37 (by decide) ?_
      refine g_istore X (L' := [some (.ref mm), some (.int (nI kk)), some (.int (nI (waysR n))), some (.int (-4)), some (.int 0), none, none]) dX11_ring_38 (by decide) rfl rfl ?_
      have loop40_9 : ∀ (d40 y : Nat), y + d40 = waysR n → ∀ (sm : Int32) (tr1 : Nat → Int32) (or1 : Nat → Int32) (bo1 : Nat → Int32) (hs : sm = (bestR k day n w y).1) (hbo : 0 < y → ∀ j, j < n → bo1 j = nI ((bestR k day n w y).2 j)), G V Z 7 (0, 0) [(mm, .inr (11, [.int le_, .ref mtx, .int po_, .ref mnu, .int fa_, .int rcl_, .int rle_, .ref mrc, .ref mrw, .ref mrl, .int (nI n), .ref mki, .ref mwa, .int ls_, .ref mle, .ref mno, .ref mtr, .ref mse, .ref mba, .int ba_, .ref mim, .int km_, .int si_, .ref msi, .ref mfo, .int fm_, .ref mor, .ref mbo, .ref mma, .ref mbm, .ref mso])), (mki, .inl (V.2.2.1, 7, .inl k)), (mno, .inl (V.2.2.1, 15, .inl (stF day w g))), (mtr, .inl (V.2.2.1, 15, .inl tr1)), (mor, .inl (V.2.2.1, 7, .inl or1)), (mbo, .inl (V.2.2.1, 7, .inl bo1))] 40 [some (.ref mm), some (.int (nI kk)), some (.int (nI (waysR n))), some (.int sm), some (.int (nI y)), none, none] [] := by
        intro d40
        induction d40 with
        | zero =>
          intro y hy sm tr1 or1 bo1 hs hbo
          refine g_iload X dX11_ring_40 rfl ?_
          refine g_iload_n X dX11_ring_42 rfl ?_
          refine g_icmp_ge X 168 dX11_ring_43 (by decide) (fun c43_10 => ?_) (fun c43_10 => absurd (tge (a := y) (b := waysR n) (by omega) (by omega) (by omega)) c43_10)
          refine g_iload_n X dX11_ring_168 rfl ?_
          refine g_if_ne X 176 dX11_ring_169 (by decide) (fun c169_11 => ?_) (fun c169_11 => absurd c169_11 (tne (a := kk) (b := 0) (by omega) (by omega) (by omega)))
          refine g_iload_n X dX11_ring_176 rfl ?_
          refine g_aload_n X dX11_ring_177 rfl ?_
          refine g_get X uwX11 0 rfl rfl 10 (by decide) kl_X11_91 rfl rfl gwX11 dX11_ring_178 ?_
          refine g_icmp_gt X 195 dX11_ring_181 (by decide) (fun c181_12 => ?_) (fun c181_12 => absurd (tgt (a := kk) (b := n) (by omega) (by omega) (by omega)) c181_12)
          refine g_bipush X (-4) dX11_ring_195 (by decide) ?_
          exact g_iret X E dX11_ring_197 ⟨tr1, or1, bo1⟩ (-4) rfl rfl
        | succ d40 ih40 =>
          intro y hy sm tr1 or1 bo1 hs hbo
          refine g_iload X dX11_ring_40 rfl ?_
          refine g_iload_n X dX11_ring_42 rfl ?_
          refine g_icmp_ge X 168 dX11_ring_43 (by decide) (fun c43_13 => absurd c43_13 (fge (a := y) (b := waysR n) (by omega) (by omega) (by omega))) (fun c43_13 => ?_)
          refine g_aload_n X dX11_ring_46 rfl ?_
          refine g_iload X dX11_ring_47 rfl ?_
          refine g_callVv X (c_X11_layOrder V mm mtx mnu mrc mrw mrl mki mwa mle mno mtr mse mba mim msi mfo mor mbo mma mbm mso le_ po_ fa_ rcl_ rle_ n ls_ ba_ km_ si_ fm_ or1 y (by omega) (by omega) (by omega)) mo_X11_layOrder kl_X11_189 [0, 4] [1, 0, 0, 0, 2, 0] rfl (by decide +kernel) rfl rfl (fun _ => Nat.le_of_ble_eq_true rfl) 0 11 rfl rfl (As := [.int (nI y)]) (st := []) (cs' := (0, 0)) rfl rfl rfl rfl dX11_ring_49 (fun no_14 hp_15 ws_17 hw_16 => ?_)
          have hor_19 : (∀ j, j < n → no_14 j = nI (ordN (dgR n y) j)) := hp_15
          have hw_16x : ws_17 = [(mm, .inr (11, [.int le_, .ref mtx, .int po_, .ref mnu, .int fa_, .int rcl_, .int rle_, .ref mrc, .ref mrw, .ref mrl, .int (nI n), .ref mki, .ref mwa, .int ls_, .ref mle, .ref mno, .ref mtr, .ref mse, .ref mba, .int ba_, .ref mim, .int km_, .int si_, .ref msi, .ref mfo, .int fm_, .ref mor, .ref mbo, .ref mma, .ref mbm, .ref mso])), (mki, .inl (V.2.2.1, 7, .inl k)), (mno, .inl (V.2.2.1, 15, .inl (stF day w g))), (mtr, .inl (V.2.2.1, 15, .inl tr1)), (mor, .inl (V.2.2.1, 7, .inl no_14)), (mbo, .inl (V.2.2.1, 7, .inl bo1))] := hw_16.symm
          clear hw_16; subst hw_16x
          refine g_aload_n X dX11_ring_52 rfl ?_
          refine g_get X uwX11 0 rfl rfl 15 (by decide) kl_X11_34 rfl rfl gwX11 dX11_ring_53 ?_
          refine g_iconst X (0) dX11_ring_56 (by decide) ?_
          refine g_aload_n X dX11_ring_57 rfl ?_
          refine g_get X uwX11 0 rfl rfl 16 (by decide) kl_X11_37 rfl rfl gwX11 dX11_ring_58 ?_
          refine g_iconst X (0) dX11_ring_61 (by decide) ?_
          refine g_callSv X (c_X11_copy V mno 15 (stF day w g) mtr 15 tr1 0 0 (by omega) (by omega) (by omega) (by omega)) mo_X11_copy kl_X11_165 [2, 3] [0, 0, 1, 2, 0, 0] rfl (by decide +kernel) rfl rfl (fun _ => Nat.le_of_ble_eq_true rfl) (As := [.ref mno, .int 0, .ref mtr, .int 0]) (st := []) (cs' := (0, 0)) rfl rfl rfl dX11_ring_62 (fun u_20 hp_21 ws_23 hw_22 => ?_)
          have hw_22x : ws_23 = [(mm, .inr (11, [.int le_, .ref mtx, .int po_, .ref mnu, .int fa_, .int rcl_, .int rle_, .ref mrc, .ref mrw, .ref mrl, .int (nI n), .ref mki, .ref mwa, .int ls_, .ref mle, .ref mno, .ref mtr, .ref mse, .ref mba, .int ba_, .ref mim, .int km_, .int si_, .ref msi, .ref mfo, .int fm_, .ref mor, .ref mbo, .ref mma, .ref mbm, .ref mso])), (mki, .inl (V.2.2.1, 7, .inl k)), (mno, .inl (V.2.2.1, 15, .inl (stF day w g))), (mtr, .inl (V.2.2.1, 15, .inl (cpM 0 0 (stF day w g) tr1))), (mor, .inl (V.2.2.1, 7, .inl no_14)), (mbo, .inl (V.2.2.1, 7, .inl bo1))] := hw_22.symm
          clear hw_22; subst hw_22x
          refine g_arr 3 (stF day w g) rfl cpM_0 (ws' := [(mm, .inr (11, [.int le_, .ref mtx, .int po_, .ref mnu, .int fa_, .int rcl_, .int rle_, .ref mrc, .ref mrw, .ref mrl, .int (nI n), .ref mki, .ref mwa, .int ls_, .ref mle, .ref mno, .ref mtr, .ref mse, .ref mba, .int ba_, .ref mim, .int km_, .int si_, .ref msi, .ref mfo, .int fm_, .ref mor, .ref mbo, .ref mma, .ref mbm, .ref mso])), (mki, .inl (V.2.2.1, 7, .inl k)), (mno, .inl (V.2.2.1, 15, .inl (stF day w g))), (mtr, .inl (V.2.2.1, 15, .inl (stF day w g))), (mor, .inl (V.2.2.1, 7, .inl no_14)), (mbo, .inl (V.2.2.1, 7, .inl bo1))]) rfl ?_
          refine g_iconst X (1) dX11_ring_65 (by decide) ?_
          refine g_istore X (L' := [some (.ref mm), some (.int (nI kk)), some (.int (nI (waysR n))), some (.int sm), some (.int (nI y)), some (.int 1), none]) dX11_ring_66 (by decide) rfl rfl ?_
          have loop68_25 : ∀ (d68 ix : Nat), ix + d68 = n → ∀ (wr : Nat → Int32) (h1x : 1 ≤ ix) (hBr : Bd n wr) (hwr : wr = ringW k day (ordN (dgR n y)) ix w), G V Z 7 (0, 0) [(mm, .inr (11, [.int le_, .ref mtx, .int po_, .ref mnu, .int fa_, .int rcl_, .int rle_, .ref mrc, .ref mrw, .ref mrl, .int (nI n), .ref mki, .ref mwa, .int ls_, .ref mle, .ref mno, .ref mtr, .ref mse, .ref mba, .int ba_, .ref mim, .int km_, .int si_, .ref msi, .ref mfo, .int fm_, .ref mor, .ref mbo, .ref mma, .ref mbm, .ref mso])), (mki, .inl (V.2.2.1, 7, .inl k)), (mno, .inl (V.2.2.1, 15, .inl (stF day w g))), (mtr, .inl (V.2.2.1, 15, .inl (stF day wr g))), (mor, .inl (V.2.2.1, 7, .inl no_14)), (mbo, .inl (V.2.2.1, 7, .inl bo1))] 68 [some (.ref mm), some (.int (nI kk)), some (.int (nI (waysR n))), some (.int sm), some (.int (nI y)), some (.int (nI ix)), none] [] := by
            intro d68
            induction d68 with
            | zero =>
              intro ix hix wr h1x hBr hwr
              refine g_iload X dX11_ring_68 rfl ?_
              refine g_aload_n X dX11_ring_70 rfl ?_
              refine g_get X uwX11 0 rfl rfl 10 (by decide) kl_X11_91 rfl rfl gwX11 dX11_ring_71 ?_
              refine g_icmp_ge X 107 dX11_ring_74 (by decide) (fun c74_26 => ?_) (fun c74_26 => absurd (tge (a := ix) (b := n) (by omega) (by omega) (by omega)) c74_26)
              refine g_aload_n X dX11_ring_107 rfl ?_
              refine g_aload_n X dX11_ring_108 rfl ?_
              refine g_get X uwX11 0 rfl rfl 16 (by decide) kl_X11_37 rfl rfl gwX11 dX11_ring_109 ?_
              refine g_callVi X (c_X11_allWrong V mm mtx mnu mrc mrw mrl mki mwa mle mno mtr mse mba mim msi mfo mor mbo mma mbm mso le_ po_ fa_ rcl_ rle_ n ls_ ba_ km_ si_ fm_ day wr g mtr (by omega)) mo_X11_allWrong kl_X11_192 [0, 3] [1, 0, 0, 2, 0, 0] rfl (by decide +kernel) rfl rfl (fun _ => Nat.le_of_ble_eq_true rfl) 0 11 rfl rfl (As := [.ref mtr]) (st := []) (cs' := (0, 0)) rfl rfl rfl rfl dX11_ring_112 (fun r_31 u_27 hp_28 ws_30 hw_29 => ?_)
              obtain rfl : r_31 = togF n wr := hp_28
              have hw_29x : ws_30 = [(mm, .inr (11, [.int le_, .ref mtx, .int po_, .ref mnu, .int fa_, .int rcl_, .int rle_, .ref mrc, .ref mrw, .ref mrl, .int (nI n), .ref mki, .ref mwa, .int ls_, .ref mle, .ref mno, .ref mtr, .ref mse, .ref mba, .int ba_, .ref mim, .int km_, .int si_, .ref msi, .ref mfo, .int fm_, .ref mor, .ref mbo, .ref mma, .ref mbm, .ref mso])), (mki, .inl (V.2.2.1, 7, .inl k)), (mno, .inl (V.2.2.1, 15, .inl (stF day w g))), (mtr, .inl (V.2.2.1, 15, .inl (stF day wr g))), (mor, .inl (V.2.2.1, 7, .inl no_14)), (mbo, .inl (V.2.2.1, 7, .inl bo1))] := hw_29.symm
              clear hw_29; subst hw_29x
              refine g_istore X (L' := [some (.ref mm), some (.int (nI kk)), some (.int (nI (waysR n))), some (.int sm), some (.int (nI y)), some (.int (togF n wr)), none]) dX11_ring_115 (by decide) rfl rfl ?_
              refine g_iload_n X dX11_ring_117 rfl ?_
              refine g_if_lt X 127 dX11_ring_118 (by decide) (fun c118_32 => ?_) (fun c118_32 => ?_)
              · have c118_32d := Int32.not_le.mpr c118_32
                have hbb := bR_T hs (by have e : ix = n := (by omega); subst e; exact hwr) (br_b (by rw [hs]; exact best_pos hn hB y) (Or.inl c118_32))
                refine g_iload X dX11_ring_127 rfl ?_
                refine g_istore_n X (L' := [some (.ref mm), some (.int (nI kk)), some (.int (nI (waysR n))), some (.int (togF n wr)), some (.int (nI y)), some (.int (togF n wr)), none]) dX11_ring_129 (by decide) rfl rfl ?_
                refine g_iconst X (0) dX11_ring_130 (by decide) ?_
                refine g_istore X (L' := [some (.ref mm), some (.int (nI kk)), some (.int (nI (waysR n))), some (.int (togF n wr)), some (.int (nI y)), some (.int (togF n wr)), some (.int 0)]) dX11_ring_131 (by decide) rfl rfl ?_
                have loop133_33 : ∀ (d133 ix2 : Nat), ix2 + d133 = n → ∀ (bo2 : Nat → Int32) (hb2 : ∀ j, j < ix2 → bo2 j = no_14 j), G V Z 7 (0, 0) [(mm, .inr (11, [.int le_, .ref mtx, .int po_, .ref mnu, .int fa_, .int rcl_, .int rle_, .ref mrc, .ref mrw, .ref mrl, .int (nI n), .ref mki, .ref mwa, .int ls_, .ref mle, .ref mno, .ref mtr, .ref mse, .ref mba, .int ba_, .ref mim, .int km_, .int si_, .ref msi, .ref mfo, .int fm_, .ref mor, .ref mbo, .ref mma, .ref mbm, .ref mso])), (mki, .inl (V.2.2.1, 7, .inl k)), (mno, .inl (V.2.2.1, 15, .inl (stF day w g))), (mtr, .inl (V.2.2.1, 15, .inl (stF day wr g))), (mor, .inl (V.2.2.1, 7, .inl no_14)), (mbo, .inl (V.2.2.1, 7, .inl bo2))] 133 [some (.ref mm), some (.int (nI kk)), some (.int (nI (waysR n))), some (.int (togF n wr)), some (.int (nI y)), some (.int (togF n wr)), some (.int (nI ix2))] [] := by
                  intro d133
                  induction d133 with
                  | zero =>
                    intro ix2 hix2 bo2 hb2
                    refine g_iload X dX11_ring_133 rfl ?_
                    refine g_aload_n X dX11_ring_135 rfl ?_
                    refine g_get X uwX11 0 rfl rfl 10 (by decide) kl_X11_91 rfl rfl gwX11 dX11_ring_136 ?_
                    refine g_icmp_ge X 162 dX11_ring_139 (by decide) (fun c139_34 => ?_) (fun c139_34 => absurd (tge (a := ix2) (b := n) (by omega) (by omega) (by omega)) c139_34)
                    refine g_iinc X (v := nI (y + 1)) (L' := [some (.ref mm), some (.int (nI kk)), some (.int (nI (waysR n))), some (.int (togF n wr)), some (.int (nI (y + 1))), some (.int (togF n wr)), some (.int (nI ix2))]) dX11_ring_162 rfl (nI_addk (by decide)) (by decide) rfl rfl ?_
                    refine g_goto X 40 dX11_ring_165 (by decide) ?_
                    refine g_sub (L' := [some (.ref mm), some (.int (nI kk)), some (.int (nI (waysR n))), some (.int (togF n wr)), some (.int (nI (y + 1))), none, none]) ⟨rfl, ⟨rfl, ⟨rfl, ⟨rfl, ⟨rfl, trivial⟩⟩⟩⟩⟩ ?_
                    exact ih40 (y + 1) (by omega) (togF n wr) (stF day wr g) no_14 bo2 hbb.1 (fun _ j hj => by rw [hbb.2, hb2 j (by omega)]; exact hor_19 j hj)
                  | succ d133 ih133 =>
                    intro ix2 hix2 bo2 hb2
                    refine g_iload X dX11_ring_133 rfl ?_
                    refine g_aload_n X dX11_ring_135 rfl ?_
                    refine g_get X uwX11 0 rfl rfl 10 (by decide) kl_X11_91 rfl rfl gwX11 dX11_ring_136 ?_
                    refine g_icmp_ge X 162 dX11_ring_139 (by decide) (fun c139_35 => absurd c139_35 (fge (a := ix2) (b := n) (by omega) (by omega) (by omega))) (fun c139_35 => ?_)
                    refine g_aload_n X dX11_ring_142 rfl ?_
                    refine g_get X uwX11 0 rfl rfl 27 (by decide) kl_X11_58 rfl rfl gwX11 dX11_ring_143 ?_
                    refine g_iload X dX11_ring_146 rfl ?_
                    refine g_aload_n X dX11_ring_148 rfl ?_
                    refine g_get X uwX11 0 rfl rfl 26 (by decide) kl_X11_55 rfl rfl gwX11 dX11_ring_149 ?_
                    refine g_iload X dX11_ring_152 rfl ?_
                    refine g_iald' X 4 rfl (i := ix2) rfl (by omega) (by omega) dX11_ring_154 ?_
                    refine g_iast' X 5 rfl (i := ix2) rfl (by omega) (by omega) (ws' := [(mm, .inr (11, [.int le_, .ref mtx, .int po_, .ref mnu, .int fa_, .int rcl_, .int rle_, .ref mrc, .ref mrw, .ref mrl, .int (nI n), .ref mki, .ref mwa, .int ls_, .ref mle, .ref mno, .ref mtr, .ref mse, .ref mba, .int ba_, .ref mim, .int km_, .int si_, .ref msi, .ref mfo, .int fm_, .ref mor, .ref mbo, .ref mma, .ref mbm, .ref mso])), (mki, .inl (V.2.2.1, 7, .inl k)), (mno, .inl (V.2.2.1, 15, .inl (stF day w g))), (mtr, .inl (V.2.2.1, 15, .inl (stF day wr g))), (mor, .inl (V.2.2.1, 7, .inl no_14)), (mbo, .inl (V.2.2.1, 7, .inl (upd bo2 ix2 (no_14 ix2))))]) rfl dX11_ring_155 ?_
                    refine g_iinc X (v := nI (ix2 + 1)) (L' := [some (.ref mm), some (.int (nI kk)), some (.int (nI (waysR n))), some (.int (togF n wr)), some (.int (nI y)), some (.int (togF n wr)), some (.int (nI (ix2 + 1)))]) dX11_ring_156 rfl (nI_addk (by decide)) (by decide) rfl rfl ?_
                    refine g_goto X 133 dX11_ring_159 (by decide) ?_
                    exact ih133 (ix2 + 1) (by omega) (upd bo2 ix2 (no_14 ix2)) (fun j hj => by
          by_cases e : j = ix2
          · rw [e, pk_us]
          · rw [pk_un e]; exact hb2 j (by omega))
                exact loop133_33 n 0 (by omega) bo1 (fun j h => absurd h (Nat.not_lt_zero _))
              · have c118_32d := Int32.not_lt.mp c118_32
                refine g_iload X dX11_ring_121 rfl ?_
                refine g_iload_n X dX11_ring_123 rfl ?_
                refine g_icmp_ge X 162 dX11_ring_124 (by decide) (fun c124_36 => ?_) (fun c124_36 => ?_)
                · have c124_36d := Int32.not_lt.mpr c124_36
                  have hbb := bR_F hs (by have e : ix = n := (by omega); subst e; exact hwr) (br_n (os := togF n wr) c118_32 (Int32.not_lt.mpr c124_36))
                  refine g_iinc X (v := nI (y + 1)) (L' := [some (.ref mm), some (.int (nI kk)), some (.int (nI (waysR n))), some (.int sm), some (.int (nI (y + 1))), some (.int (togF n wr)), none]) dX11_ring_162 rfl (nI_addk (by decide)) (by decide) rfl rfl ?_
                  refine g_goto X 40 dX11_ring_165 (by decide) ?_
                  refine g_sub (L' := [some (.ref mm), some (.int (nI kk)), some (.int (nI (waysR n))), some (.int sm), some (.int (nI (y + 1))), none, none]) ⟨rfl, ⟨rfl, ⟨rfl, ⟨rfl, ⟨rfl, trivial⟩⟩⟩⟩⟩ ?_
                  exact ih40 (y + 1) (by omega) sm (stF day wr g) no_14 bo1 hbb.1 (fun _ j hj => by rw [hbb.2]; exact hbo (bR_y hs (br_n (os := togF n wr) c118_32 (Int32.not_lt.mpr c124_36))) j hj)
                · have c124_36d := Int32.not_le.mp c124_36
                  have hbb := bR_T hs (by have e : ix = n := (by omega); subst e; exact hwr) (br_b (by rw [hs]; exact best_pos hn hB y) (Or.inr c124_36d))
                  refine g_iload X dX11_ring_127 rfl ?_
                  refine g_istore_n X (L' := [some (.ref mm), some (.int (nI kk)), some (.int (nI (waysR n))), some (.int (togF n wr)), some (.int (nI y)), some (.int (togF n wr)), none]) dX11_ring_129 (by decide) rfl rfl ?_
                  refine g_iconst X (0) dX11_ring_130 (by decide) ?_
                  refine g_istore X (L' := [some (.ref mm), some (.int (nI kk)), some (.int (nI (waysR n))), some (.int (togF n wr)), some (.int (nI y)), some (.int (togF n wr)), some (.int 0)]) dX11_ring_131 (by decide) rfl rfl ?_
                  have loop133_37 : ∀ (d133 ix2 : Nat), ix2 + d133 = n → ∀ (bo2 : Nat → Int32) (hb2 : ∀ j, j < ix2 → bo2 j = no_14 j), G V Z 7 (0, 0) [(mm, .inr (11, [.int le_, .ref mtx, .int po_, .ref mnu, .int fa_, .int rcl_, .int rle_, .ref mrc, .ref mrw, .ref mrl, .int (nI n), .ref mki, .ref mwa, .int ls_, .ref mle, .ref mno, .ref mtr, .ref mse, .ref mba, .int ba_, .ref mim, .int km_, .int si_, .ref msi, .ref mfo, .int fm_, .ref mor, .ref mbo, .ref mma, .ref mbm, .ref mso])), (mki, .inl (V.2.2.1, 7, .inl k)), (mno, .inl (V.2.2.1, 15, .inl (stF day w g))), (mtr, .inl (V.2.2.1, 15, .inl (stF day wr g))), (mor, .inl (V.2.2.1, 7, .inl no_14)), (mbo, .inl (V.2.2.1, 7, .inl bo2))] 133 [some (.ref mm), some (.int (nI kk)), some (.int (nI (waysR n))), some (.int (togF n wr)), some (.int (nI y)), some (.int (togF n wr)), some (.int (nI ix2))] [] := by
                    intro d133
                    induction d133 with
                    | zero =>
                      intro ix2 hix2 bo2 hb2
                      refine g_iload X dX11_ring_133 rfl ?_
                      refine g_aload_n X dX11_ring_135 rfl ?_
                      refine g_get X uwX11 0 rfl rfl 10 (by decide) kl_X11_91 rfl rfl gwX11 dX11_ring_136 ?_
                      refine g_icmp_ge X 162 dX11_ring_139 (by decide) (fun c139_38 => ?_) (fun c139_38 => absurd (tge (a := ix2) (b := n) (by omega) (by omega) (by omega)) c139_38)
                      refine g_iinc X (v := nI (y + 1)) (L' := [some (.ref mm), some (.int (nI kk)), some (.int (nI (waysR n))), some (.int (togF n wr)), some (.int (nI (y + 1))), some (.int (togF n wr)), some (.int (nI ix2))]) dX11_ring_162 rfl (nI_addk (by decide)) (by decide) rfl rfl ?_
                      refine g_goto X 40 dX11_ring_165 (by decide) ?_
                      refine g_sub (L' := [some (.ref mm), some (.int (nI kk)), some (.int (nI (waysR n))), some (.int (togF n wr)), some (.int (nI (y + 1))), none, none]) ⟨rfl, ⟨rfl, ⟨rfl, ⟨rfl, ⟨rfl, trivial⟩⟩⟩⟩⟩ ?_
                      exact ih40 (y + 1) (by omega) (togF n wr) (stF day wr g) no_14 bo2 hbb.1 (fun _ j hj => by rw [hbb.2, hb2 j (by omega)]; exact hor_19 j hj)
                    | succ d133 ih133 =>
                      intro ix2 hix2 bo2 hb2
                      refine g_iload X dX11_ring_133 rfl ?_
                      refine g_aload_n X dX11_ring_135 rfl ?_
                      refine g_get X uwX11 0 rfl rfl 10 (by decide) kl_X11_91 rfl rfl gwX11 dX11_ring_136 ?_
                      refine g_icmp_ge X 162 dX11_ring_139 (by decide) (fun c139_39 => absurd c139_39 (fge (a := ix2) (b := n) (by omega) (by omega) (by omega))) (fun c139_39 => ?_)
                      refine g_aload_n X dX11_ring_142 rfl ?_
                      refine g_get X uwX11 0 rfl rfl 27 (by decide) kl_X11_58 rfl rfl gwX11 dX11_ring_143 ?_
                      refine g_iload X dX11_ring_146 rfl ?_
                      refine g_aload_n X dX11_ring_148 rfl ?_
                      refine g_get X uwX11 0 rfl rfl 26 (by decide) kl_X11_55 rfl rfl gwX11 dX11_ring_149 ?_
                      refine g_iload X dX11_ring_152 rfl ?_
                      refine g_iald' X 4 rfl (i := ix2) rfl (by omega) (by omega) dX11_ring_154 ?_
                      refine g_iast' X 5 rfl (i := ix2) rfl (by omega) (by omega) (ws' := [(mm, .inr (11, [.int le_, .ref mtx, .int po_, .ref mnu, .int fa_, .int rcl_, .int rle_, .ref mrc, .ref mrw, .ref mrl, .int (nI n), .ref mki, .ref mwa, .int ls_, .ref mle, .ref mno, .ref mtr, .ref mse, .ref mba, .int ba_, .ref mim, .int km_, .int si_, .ref msi, .ref mfo, .int fm_, .ref mor, .ref mbo, .ref mma, .ref mbm, .ref mso])), (mki, .inl (V.2.2.1, 7, .inl k)), (mno, .inl (V.2.2.1, 15, .inl (stF day w g))), (mtr, .inl (V.2.2.1, 15, .inl (stF day wr g))), (mor, .inl (V.2.2.1, 7, .inl no_14)), (mbo, .inl (V.2.2.1, 7, .inl (upd bo2 ix2 (no_14 ix2))))]) rfl dX11_ring_155 ?_
                      refine g_iinc X (v := nI (ix2 + 1)) (L' := [some (.ref mm), some (.int (nI kk)), some (.int (nI (waysR n))), some (.int (togF n wr)), some (.int (nI y)), some (.int (togF n wr)), some (.int (nI (ix2 + 1)))]) dX11_ring_156 rfl (nI_addk (by decide)) (by decide) rfl rfl ?_
                      refine g_goto X 133 dX11_ring_159 (by decide) ?_
                      exact ih133 (ix2 + 1) (by omega) (upd bo2 ix2 (no_14 ix2)) (fun j hj => by
          by_cases e : j = ix2
          · rw [e, pk_us]
          · rw [pk_un e]; exact hb2 j (by omega))
                  exact loop133_37 n 0 (by omega) bo1 (fun j h => absurd h (Nat.not_lt_zero _))
            | succ d68 ih68 =>
              intro ix hix wr h1x hBr hwr
              refine g_iload X dX11_ring_68 rfl ?_
              refine g_aload_n X dX11_ring_70 rfl ?_
              refine g_get X uwX11 0 rfl rfl 10 (by decide) kl_X11_91 rfl rfl gwX11 dX11_ring_71 ?_
              refine g_icmp_ge X 107 dX11_ring_74 (by decide) (fun c74_40 => absurd c74_40 (fge (a := ix) (b := n) (by omega) (by omega) (by omega))) (fun c74_40 => ?_)
              refine g_aload_n X dX11_ring_77 rfl ?_
              refine g_aload_n X dX11_ring_78 rfl ?_
              refine g_get X uwX11 0 rfl rfl 16 (by decide) kl_X11_37 rfl rfl gwX11 dX11_ring_79 ?_
              refine g_aload_n X dX11_ring_82 rfl ?_
              refine g_get X uwX11 0 rfl rfl 26 (by decide) kl_X11_55 rfl rfl gwX11 dX11_ring_83 ?_
              refine g_iload X dX11_ring_86 rfl ?_
              refine g_iconst X (1) dX11_ring_88 (by decide) ?_
              refine g_isub X dX11_ring_89 ?_
              refine g_toe (x' := nI (ix - 1)) (nI_sub' rfl rfl (by omega)) ?_
              refine g_iald' X 4 rfl (i := (ix - 1)) rfl (by omega) (by omega) dX11_ring_90 ?_
              refine g_toe (x' := nI (ordN (dgR n y) (ix - 1))) (hor_19 _ (by omega)) ?_
              refine g_aload_n X dX11_ring_91 rfl ?_
              refine g_get X uwX11 0 rfl rfl 26 (by decide) kl_X11_55 rfl rfl gwX11 dX11_ring_92 ?_
              refine g_iload X dX11_ring_95 rfl ?_
              refine g_iald' X 4 rfl (i := ix) rfl (by omega) (by omega) dX11_ring_97 ?_
              refine g_toe (x' := nI (ordN (dgR n y) ix)) (hor_19 _ (by omega)) ?_
              refine g_callVv X (c_X11_teachOn V mm mtx mnu mrc mrw mrl mki mwa mle mno mtr mse mba mim msi mfo mor mbo mma mbm mso le_ po_ fa_ rcl_ rle_ n ls_ ba_ km_ si_ fm_ k day wr g mtr (ordN (dgR n y) (ix - 1)) (ordN (dgR n y) ix) (by omega) (ord_R2 n (by omega) h1n y (by omega) _ (by omega)) (ord_R2 n (by omega) h1n y (by omega) _ (by omega)) hBr) mo_X11_teachOn kl_X11_154 [0, 1, 3] [1, 2, 0, 3, 0, 0] rfl (by decide +kernel) rfl rfl (fun _ => Nat.le_of_ble_eq_true rfl) 0 11 rfl rfl (As := [.ref mtr, .int (nI (ordN (dgR n y) (ix - 1))), .int (nI (ordN (dgR n y) ix))]) (st := []) (cs' := (0, 0)) rfl rfl rfl rfl dX11_ring_98 (fun nw_41 hp_42 ws_44 hw_43 => ?_)
              obtain rfl : nw_41 = learnF k day (ordN (dgR n y) (ix - 1)) (ordN (dgR n y) ix) wr := hp_42
              have hw_43x : ws_44 = [(mm, .inr (11, [.int le_, .ref mtx, .int po_, .ref mnu, .int fa_, .int rcl_, .int rle_, .ref mrc, .ref mrw, .ref mrl, .int (nI n), .ref mki, .ref mwa, .int ls_, .ref mle, .ref mno, .ref mtr, .ref mse, .ref mba, .int ba_, .ref mim, .int km_, .int si_, .ref msi, .ref mfo, .int fm_, .ref mor, .ref mbo, .ref mma, .ref mbm, .ref mso])), (mki, .inl (V.2.2.1, 7, .inl k)), (mno, .inl (V.2.2.1, 15, .inl (stF day w g))), (mtr, .inl (V.2.2.1, 15, .inl (stF day (learnF k day (ordN (dgR n y) (ix - 1)) (ordN (dgR n y) ix) wr) g))), (mor, .inl (V.2.2.1, 7, .inl no_14)), (mbo, .inl (V.2.2.1, 7, .inl bo1))] := hw_43.symm
              clear hw_43; subst hw_43x
              refine g_iinc X (v := nI (ix + 1)) (L' := [some (.ref mm), some (.int (nI kk)), some (.int (nI (waysR n))), some (.int sm), some (.int (nI y)), some (.int (nI (ix + 1))), none]) dX11_ring_101 rfl (nI_addk (by decide)) (by decide) rfl rfl ?_
              refine g_goto X 68 dX11_ring_104 (by decide) ?_
              exact ih68 (ix + 1) (by omega) (learnF k day (ordN (dgR n y) (ix - 1)) (ordN (dgR n y) ix) wr) (by omega) (Bd_learn hBr) (by rw [ringW_s, if_neg (by omega), ← hwr])
          exact loop68_25 (n - 1) 1 (by omega) w (Nat.le_refl _) hB rfl
      exact loop40_9 (waysR n) 0 (by omega) (-4) tr or bo rfl (fun h => absurd h (Nat.lt_irrefl _))
    | succ d16 ih16 =>
      intro i hi mn hi2 hmn
      refine g_iload_n X dX11_ring_16 rfl ?_
      refine g_aload_n X dX11_ring_17 rfl ?_
      refine g_get X uwX11 0 rfl rfl 10 (by decide) kl_X11_91 rfl rfl gwX11 dX11_ring_18 ?_
      refine g_icmp_ge X 34 dX11_ring_21 (by decide) (fun c21_46 => absurd c21_46 (fge (a := i) (b := n) (by omega) (by omega) (by omega))) (fun c21_46 => ?_)
      refine g_iload_n X dX11_ring_24 rfl ?_
      refine g_iload_n X dX11_ring_25 rfl ?_
      refine g_imul X dX11_ring_26 ?_
      refine g_toe (x' := nI (mn * i)) (nI_mul' rfl rfl) ?_
      refine g_istore_n X (L' := [some (.ref mm), some (.int (nI kk)), some (.int (nI (mn * i))), some (.int (nI i)), none, none, none]) dX11_ring_27 (by decide) rfl rfl ?_
      refine g_iinc X (v := nI (i + 1)) (L' := [some (.ref mm), some (.int (nI kk)), some (.int (nI (mn * i))), some (.int (nI (i + 1))), none, none, none]) dX11_ring_28 rfl (nI_addk (by decide)) (by decide) rfl rfl ?_
      refine g_goto X 16 dX11_ring_31 (by decide) ?_
      exact ih16 (i + 1) (by omega) (mn * i) (by omega) (fa_st (by omega) hmn)
  exact loop16_7 (2 + (n - 2) - 2) 2 (by omega) 1 (Nat.le_refl _) rfl
