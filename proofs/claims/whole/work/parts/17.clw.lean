set_option maxHeartbeats 4000000 in
set_option maxRecDepth 100000 in
theorem c_X4_hasClockN (V : gV) (h : Nat) (hk : Nat) (hfw : Nat) (hfg : Nat) (hwb : Nat) (hld : Nat) (hte : Nat) (hpu : Nat) (hnu : Nat) (n : Nat) (hwa : Int32) (m : Nat) (to : Nat) (c : Nat) (hn : n ≤ 7) (hb_c : c < 1000) : Ki V yX4_hasClock cX4_hasClock 2 .boolean ({ frames := 0, cells := 0, slots := 0, locals := 0 }) [.ref h, .int (nI c)] [(h, .inr (4, [.ref hk, .ref hfw, .ref hfg, .ref hwb, .ref hld, .ref hte, .ref hpu, .int (nI n), .int hwa, .int (nI m), .ref hnu, .int (nI to)]))] (fun (r : Int32) (u : Unit) => r = (if c < n then 1 else 0)) (fun u => [(h, .inr (4, [.ref hk, .ref hfw, .ref hfg, .ref hwb, .ref hld, .ref hte, .ref hpu, .int (nI n), .int hwa, .int (nI m), .ref hnu, .int (nI to)]))]) := by
  refine Ki.of [some (.ref h), some (.int (nI c))] (by decide) (Nat.le_of_ble_eq_true rfl) rfl rfl ?_
  intro Z X E
  have X : gX V Z RX4 cX4_hasClock 2 ({ frames := 0, cells := 0, slots := 0, locals := 0 }) := X
  refine g_iload_n X dX4_hasClock_0 rfl ?_
  refine g_if_lt X 16 dX4_hasClock_1 (by decide) (fun c1_1 => absurd c1_1 (flt (a := c) (b := 0) (by omega) (by omega) (by omega))) (fun c1_1 => ?_)
  refine g_iload_n X dX4_hasClock_4 rfl ?_
  refine g_aload_n X dX4_hasClock_5 rfl ?_
  refine g_get X uwX4 0 rfl rfl 7 (by decide) kl_X4_33 rfl rfl gwX4 dX4_hasClock_6 ?_
  refine g_icmp_ge X 16 dX4_hasClock_9 (by decide) (fun c9_2 => ?_) (fun c9_2 => ?_)
  · have c9_2n := ige' (a := c) (b := n) c9_2 (by omega) (by omega)
    refine g_iconst X (0) dX4_hasClock_16 (by decide) ?_
    exact g_zret X E dX4_hasClock_17 () 0 rfl (by first | rfl | (simp [c1_1, c9_2, c9_2n]; done)) rfl
  · have c9_2n := inge' (a := c) (b := n) c9_2 (by omega) (by omega)
    refine g_iconst X (1) dX4_hasClock_12 (by decide) ?_
    refine g_goto X 17 dX4_hasClock_13 (by decide) ?_
    exact g_zret X E dX4_hasClock_17 () 1 rfl (by first | rfl | (simp [c1_1, c9_2, c9_2n]; done)) rfl

set_option maxHeartbeats 4000000 in
set_option maxRecDepth 100000 in
theorem c_X4_hasBothN (V : gV) (h : Nat) (hk : Nat) (hfw : Nat) (hfg : Nat) (hwb : Nat) (hld : Nat) (hte : Nat) (hpu : Nat) (hnu : Nat) (n : Nat) (hwa : Int32) (m : Nat) (to : Nat) (a : Nat) (b : Nat) (hn : n ≤ 7) (hb_a : a < 1000) (hb_b : b < 1000) : Ki V yX4_hasBoth cX4_hasBoth 3 .boolean ({ frames := 1, cells := 0, slots := 0, locals := 21 }) [.ref h, .int (nI a), .int (nI b)] [(h, .inr (4, [.ref hk, .ref hfw, .ref hfg, .ref hwb, .ref hld, .ref hte, .ref hpu, .int (nI n), .int hwa, .int (nI m), .ref hnu, .int (nI to)]))] (fun (r : Int32) (u : Unit) => r = (if a < n ∧ b < n ∧ a ≠ b then 1 else 0)) (fun u => [(h, .inr (4, [.ref hk, .ref hfw, .ref hfg, .ref hwb, .ref hld, .ref hte, .ref hpu, .int (nI n), .int hwa, .int (nI m), .ref hnu, .int (nI to)]))]) := by
  refine Ki.of [some (.ref h), some (.int (nI a)), some (.int (nI b))] (by decide) (Nat.le_of_ble_eq_true rfl) rfl rfl ?_
  intro Z X E
  have X : gX V Z RX4 cX4_hasBoth 3 ({ frames := 1, cells := 0, slots := 0, locals := 21 }) := X
  refine g_aload_n X dX4_hasBoth_0 rfl ?_
  refine g_iload_n X dX4_hasBoth_1 rfl ?_
  refine g_callVi X (c_X4_hasClockN V h hk hfw hfg hwb hld hte hpu hnu n hwa m to a (by omega) (by omega)) mo_X4_hasClock kl_X4_91 [0] [1] rfl (by decide +kernel) rfl rfl (fun _ => Nat.le_of_ble_eq_true rfl) 0 4 rfl rfl (As := [.int (nI a)]) (st := []) (cs' := (0, 0)) rfl rfl rfl rfl dX4_hasBoth_2 (fun r_5 u_1 hp_2 ws_4 hw_3 => ?_)
  obtain rfl : r_5 = (if a < n then 1 else 0) := hp_2
  have hw_3x : ws_4 = [(h, .inr (4, [.ref hk, .ref hfw, .ref hfg, .ref hwb, .ref hld, .ref hte, .ref hpu, .int (nI n), .int hwa, .int (nI m), .ref hnu, .int (nI to)]))] := hw_3.symm
  clear hw_3; subst hw_3x
  refine g_if_eq X 25 dX4_hasBoth_5 (by decide) (fun c5_6 => ?_) (fun c5_6 => ?_)
  · refine g_iconst X (0) dX4_hasBoth_25 (by decide) ?_
    exact g_zret X E dX4_hasBoth_26 () 0 rfl (by simp at c5_6; rw [if_neg (by omega)]) rfl
  · refine g_aload_n X dX4_hasBoth_8 rfl ?_
    refine g_iload_n X dX4_hasBoth_9 rfl ?_
    refine g_callVi X (c_X4_hasClockN V h hk hfw hfg hwb hld hte hpu hnu n hwa m to b (by omega) (by omega)) mo_X4_hasClock kl_X4_91 [0] [1] rfl (by decide +kernel) rfl rfl (fun _ => Nat.le_of_ble_eq_true rfl) 0 4 rfl rfl (As := [.int (nI b)]) (st := []) (cs' := (0, 0)) rfl rfl rfl rfl dX4_hasBoth_10 (fun r_11 u_7 hp_8 ws_10 hw_9 => ?_)
    obtain rfl : r_11 = (if b < n then 1 else 0) := hp_8
    have hw_9x : ws_10 = [(h, .inr (4, [.ref hk, .ref hfw, .ref hfg, .ref hwb, .ref hld, .ref hte, .ref hpu, .int (nI n), .int hwa, .int (nI m), .ref hnu, .int (nI to)]))] := hw_9.symm
    clear hw_9; subst hw_9x
    refine g_if_eq X 25 dX4_hasBoth_13 (by decide) (fun c13_12 => ?_) (fun c13_12 => ?_)
    · refine g_iconst X (0) dX4_hasBoth_25 (by decide) ?_
      exact g_zret X E dX4_hasBoth_26 () 0 rfl (by simp at c5_6 c13_12; rw [if_neg (by omega)]) rfl
    · refine g_iload_n X dX4_hasBoth_16 rfl ?_
      refine g_iload_n X dX4_hasBoth_17 rfl ?_
      refine g_icmp_eq X 25 dX4_hasBoth_18 (by decide) (fun c18_13 => ?_) (fun c18_13 => ?_)
      · have c18_13n := ieq' (a := a) (b := b) c18_13 (by omega) (by omega)
        refine g_iconst X (0) dX4_hasBoth_25 (by decide) ?_
        exact g_zret X E dX4_hasBoth_26 () 0 rfl (by simp at c5_6 c13_12; rw [if_neg (by omega)]) rfl
      · have c18_13n := ine' (a := a) (b := b) c18_13 (by omega) (by omega)
        refine g_iconst X (1) dX4_hasBoth_21 (by decide) ?_
        refine g_goto X 26 dX4_hasBoth_22 (by decide) ?_
        exact g_zret X E dX4_hasBoth_26 () 1 rfl (by simp at c5_6 c13_12; rw [if_pos ⟨by omega, by omega, by omega⟩]) rfl

set_option maxHeartbeats 4000000 in
set_option maxRecDepth 100000 in
theorem c_X4_takeClock_ok (V : gV) (h : Nat) (hk : Nat) (hfw : Nat) (hfg : Nat) (hwb : Nat) (hld : Nat) (hte : Nat) (hpu : Nat) (hnu : Nat) (n : Nat) (hwa : Int32) (m : Nat) (to : Nat) (k : Nat → Int32) (fw : Nat → Int32) (fg : Nat → Int32) (wb : Nat → Int32) (a : Nat) (b : Nat) (c : Nat) (hok : n < 7 ∧ a ≤ 4 ∧ b ≤ 200 ∧ c ≤ 20) : Ki V yX4_takeClock cX4_takeClock 4 .boolean ({ frames := 1, cells := 0, slots := 0, locals := 22 }) [.ref h, .int (nI a), .int (nI b), .int (nI c)] [(h, .inr (4, [.ref hk, .ref hfw, .ref hfg, .ref hwb, .ref hld, .ref hte, .ref hpu, .int (nI n), .int hwa, .int (nI m), .ref hnu, .int (nI to)])), (hk, .inl (V.2.2.1, 7, .inl k)), (hfw, .inl (V.2.2.1, 7, .inl fw)), (hfg, .inl (V.2.2.1, 7, .inl fg)), (hwb, .inl (V.2.2.1, 7, .inl wb))] (fun (r : Int32) (u : Unit) => r = 1) (fun u => [(h, .inr (4, [.ref hk, .ref hfw, .ref hfg, .ref hwb, .ref hld, .ref hte, .ref hpu, .int (nI (n + 1)), .int hwa, .int (nI m), .ref hnu, .int (nI to)])), (hk, .inl (V.2.2.1, 7, .inl (upd k n (nI a)))), (hfw, .inl (V.2.2.1, 7, .inl (upd fw n (nI b - 100)))), (hfg, .inl (V.2.2.1, 7, .inl (upd fg n (nI c - 10)))), (hwb, .inl (V.2.2.1, 7, .inl (upd wb n 0)))]) := by
  refine Ki.of [some (.ref h), some (.int (nI a)), some (.int (nI b)), some (.int (nI c))] (by decide) (Nat.le_of_ble_eq_true rfl) rfl rfl ?_
  intro Z X E
  have X : gX V Z RX4 cX4_takeClock 4 ({ frames := 1, cells := 0, slots := 0, locals := 22 }) := X
  refine g_aload_n X dX4_takeClock_0 rfl ?_
  refine g_get X uwX4 0 rfl rfl 7 (by decide) kl_X4_33 rfl rfl gwX4 dX4_takeClock_1 ?_
  refine g_bipush X (7) dX4_takeClock_4 (by decide) ?_
  refine g_icmp_ge X 27 dX4_takeClock_6 (by decide) (fun c6_1 => absurd c6_1 (fge (a := n) (b := 7) (by omega) (by omega) (by omega))) (fun c6_1 => ?_)
  refine g_iload_n X dX4_takeClock_9 rfl ?_
  refine g_iconst X (4) dX4_takeClock_10 (by decide) ?_
  refine g_icmp_gt X 27 dX4_takeClock_11 (by decide) (fun c11_2 => absurd c11_2 (fgt (a := a) (b := 4) (by omega) (by omega) (by omega))) (fun c11_2 => ?_)
  refine g_iload_n X dX4_takeClock_14 rfl ?_
  refine g_sipush X (200) dX4_takeClock_15 (by decide) ?_
  refine g_icmp_gt X 27 dX4_takeClock_18 (by decide) (fun c18_3 => absurd c18_3 (fgt (a := b) (b := 200) (by omega) (by omega) (by omega))) (fun c18_3 => ?_)
  refine g_iload_n X dX4_takeClock_21 rfl ?_
  refine g_bipush X (20) dX4_takeClock_22 (by decide) ?_
  refine g_icmp_le X 29 dX4_takeClock_24 (by decide) (fun c24_4 => ?_) (fun c24_4 => absurd (tle (a := c) (b := 20) (by omega) (by omega) (by omega)) c24_4)
  refine g_aload_n X dX4_takeClock_29 rfl ?_
  refine g_get X uwX4 0 rfl rfl 0 (by decide) kl_X4_9 rfl rfl gwX4 dX4_takeClock_30 ?_
  refine g_aload_n X dX4_takeClock_33 rfl ?_
  refine g_get X uwX4 0 rfl rfl 7 (by decide) kl_X4_33 rfl rfl gwX4 dX4_takeClock_34 ?_
  refine g_iload_n X dX4_takeClock_37 rfl ?_
  refine g_callNv X (c_X10_put V hk 7 k n (nI a) (by omega) (by decide)) mo_X10_put kl_X4_66 [1] [0, 1, 0, 0, 0] rfl (by decide +kernel) rfl rfl (fun _ => Nat.le_of_ble_eq_true rfl) (As := [.ref hk, .int (nI n), .int (nI a)]) (st := []) (cs' := (0, 0)) rfl rfl rfl dX4_takeClock_38 (fun nf_5 hp_6 ws_8 hw_7 => ?_)
  obtain rfl : nf_5 = upd k n (nI a) := hp_6
  have hw_7x : ws_8 = [(h, .inr (4, [.ref hk, .ref hfw, .ref hfg, .ref hwb, .ref hld, .ref hte, .ref hpu, .int (nI n), .int hwa, .int (nI m), .ref hnu, .int (nI to)])), (hk, .inl (V.2.2.1, 7, .inl (upd k n (nI a)))), (hfw, .inl (V.2.2.1, 7, .inl fw)), (hfg, .inl (V.2.2.1, 7, .inl fg)), (hwb, .inl (V.2.2.1, 7, .inl wb))] := hw_7.symm
  clear hw_7; subst hw_7x
  refine g_aload_n X dX4_takeClock_41 rfl ?_
  refine g_get X uwX4 0 rfl rfl 1 (by decide) kl_X4_15 rfl rfl gwX4 dX4_takeClock_42 ?_
  refine g_aload_n X dX4_takeClock_45 rfl ?_
  refine g_get X uwX4 0 rfl rfl 7 (by decide) kl_X4_33 rfl rfl gwX4 dX4_takeClock_46 ?_
  refine g_iload_n X dX4_takeClock_49 rfl ?_
  refine g_bipush X (100) dX4_takeClock_50 (by decide) ?_
  refine g_isub X dX4_takeClock_52 ?_
  refine g_callNv X (c_X10_put V hfw 7 fw n ((nI b) - 100) (by omega) (by decide)) mo_X10_put kl_X4_66 [2] [0, 0, 1, 0, 0] rfl (by decide +kernel) rfl rfl (fun _ => Nat.le_of_ble_eq_true rfl) (As := [.ref hfw, .int (nI n), .int ((nI b) - 100)]) (st := []) (cs' := (0, 0)) rfl rfl rfl dX4_takeClock_53 (fun nf_10 hp_11 ws_13 hw_12 => ?_)
  obtain rfl : nf_10 = upd fw n ((nI b) - 100) := hp_11
  have hw_12x : ws_13 = [(h, .inr (4, [.ref hk, .ref hfw, .ref hfg, .ref hwb, .ref hld, .ref hte, .ref hpu, .int (nI n), .int hwa, .int (nI m), .ref hnu, .int (nI to)])), (hk, .inl (V.2.2.1, 7, .inl (upd k n (nI a)))), (hfw, .inl (V.2.2.1, 7, .inl (upd fw n ((nI b) - 100)))), (hfg, .inl (V.2.2.1, 7, .inl fg)), (hwb, .inl (V.2.2.1, 7, .inl wb))] := hw_12.symm
  clear hw_12; subst hw_12x
  refine g_aload_n X dX4_takeClock_56 rfl ?_
  refine g_get X uwX4 0 rfl rfl 2 (by decide) kl_X4_18 rfl rfl gwX4 dX4_takeClock_57 ?_
  refine g_aload_n X dX4_takeClock_60 rfl ?_
  refine g_get X uwX4 0 rfl rfl 7 (by decide) kl_X4_33 rfl rfl gwX4 dX4_takeClock_61 ?_
  refine g_iload_n X dX4_takeClock_64 rfl ?_
  refine g_bipush X (10) dX4_takeClock_65 (by decide) ?_
  refine g_isub X dX4_takeClock_67 ?_
  refine g_callNv X (c_X10_put V hfg 7 fg n ((nI c) - 10) (by omega) (by decide)) mo_X10_put kl_X4_66 [3] [0, 0, 0, 1, 0] rfl (by decide +kernel) rfl rfl (fun _ => Nat.le_of_ble_eq_true rfl) (As := [.ref hfg, .int (nI n), .int ((nI c) - 10)]) (st := []) (cs' := (0, 0)) rfl rfl rfl dX4_takeClock_68 (fun nf_15 hp_16 ws_18 hw_17 => ?_)
  obtain rfl : nf_15 = upd fg n ((nI c) - 10) := hp_16
  have hw_17x : ws_18 = [(h, .inr (4, [.ref hk, .ref hfw, .ref hfg, .ref hwb, .ref hld, .ref hte, .ref hpu, .int (nI n), .int hwa, .int (nI m), .ref hnu, .int (nI to)])), (hk, .inl (V.2.2.1, 7, .inl (upd k n (nI a)))), (hfw, .inl (V.2.2.1, 7, .inl (upd fw n ((nI b) - 100)))), (hfg, .inl (V.2.2.1, 7, .inl (upd fg n ((nI c) - 10)))), (hwb, .inl (V.2.2.1, 7, .inl wb))] := hw_17.symm
  clear hw_17; subst hw_17x
  refine g_aload_n X dX4_takeClock_71 rfl ?_
  refine g_get X uwX4 0 rfl rfl 3 (by decide) kl_X4_21 rfl rfl gwX4 dX4_takeClock_72 ?_
  refine g_aload_n X dX4_takeClock_75 rfl ?_
  refine g_get X uwX4 0 rfl rfl 7 (by decide) kl_X4_33 rfl rfl gwX4 dX4_takeClock_76 ?_
  refine g_iconst X (0) dX4_takeClock_79 (by decide) ?_
  refine g_callNv X (c_X10_put V hwb 7 wb n 0 (by omega) (by decide)) mo_X10_put kl_X4_66 [4] [0, 0, 0, 0, 1] rfl (by decide +kernel) rfl rfl (fun _ => Nat.le_of_ble_eq_true rfl) (As := [.ref hwb, .int (nI n), .int 0]) (st := []) (cs' := (0, 0)) rfl rfl rfl dX4_takeClock_80 (fun nf_20 hp_21 ws_23 hw_22 => ?_)
  obtain rfl : nf_20 = upd wb n 0 := hp_21
  have hw_22x : ws_23 = [(h, .inr (4, [.ref hk, .ref hfw, .ref hfg, .ref hwb, .ref hld, .ref hte, .ref hpu, .int (nI n), .int hwa, .int (nI m), .ref hnu, .int (nI to)])), (hk, .inl (V.2.2.1, 7, .inl (upd k n (nI a)))), (hfw, .inl (V.2.2.1, 7, .inl (upd fw n ((nI b) - 100)))), (hfg, .inl (V.2.2.1, 7, .inl (upd fg n ((nI c) - 10)))), (hwb, .inl (V.2.2.1, 7, .inl (upd wb n 0)))] := hw_22.symm
  clear hw_22; subst hw_22x
  refine g_aload_n X dX4_takeClock_83 rfl ?_
  refine g_dup X dX4_takeClock_84 rfl ?_
  refine g_get X uwX4 0 rfl rfl 7 (by decide) kl_X4_33 rfl rfl gwX4 dX4_takeClock_85 ?_
  refine g_iconst X (1) dX4_takeClock_88 (by decide) ?_
  refine g_iadd X dX4_takeClock_89 ?_
  refine g_toe (x' := nI (n + 1)) (nI_add' rfl rfl) ?_
  refine g_put X uwX4 tyX4 tyX4_ok nmX4 0 rfl rfl 7 (by decide) kl_X4_33 rfl rfl rfl rfl (Nat.le_of_ble_eq_true rfl) gwX4 (ws' := [(h, .inr (4, [.ref hk, .ref hfw, .ref hfg, .ref hwb, .ref hld, .ref hte, .ref hpu, .int (nI (n + 1)), .int hwa, .int (nI m), .ref hnu, .int (nI to)])), (hk, .inl (V.2.2.1, 7, .inl (upd k n (nI a)))), (hfw, .inl (V.2.2.1, 7, .inl (upd fw n ((nI b) - 100)))), (hfg, .inl (V.2.2.1, 7, .inl (upd fg n ((nI c) - 10)))), (hwb, .inl (V.2.2.1, 7, .inl (upd wb n 0)))]) rfl dX4_takeClock_90 ?_
  refine g_iconst X (1) dX4_takeClock_93 (by decide) ?_
  exact g_zret X E dX4_takeClock_94 () 1 rfl (by first | rfl | (simp [c6_1, c11_2, c18_3, c24_4]; done)) rfl

set_option maxHeartbeats 4000000 in
set_option maxRecDepth 100000 in
theorem c_X4_takeClock_no (V : gV) (h : Nat) (hk : Nat) (hfw : Nat) (hfg : Nat) (hwb : Nat) (hld : Nat) (hte : Nat) (hpu : Nat) (hnu : Nat) (n : Nat) (hwa : Int32) (m : Nat) (to : Nat) (k : Nat → Int32) (fw : Nat → Int32) (fg : Nat → Int32) (wb : Nat → Int32) (a : Nat) (b : Nat) (c : Nat) (hn : n ≤ 7) (hok : ¬ (n < 7 ∧ a ≤ 4 ∧ b ≤ 200 ∧ c ≤ 20)) (hb_a : a < 1000) (hb_b : b < 1000) (hb_c : c < 1000) : Ki V yX4_takeClock cX4_takeClock 4 .boolean ({ frames := 0, cells := 0, slots := 0, locals := 0 }) [.ref h, .int (nI a), .int (nI b), .int (nI c)] [(h, .inr (4, [.ref hk, .ref hfw, .ref hfg, .ref hwb, .ref hld, .ref hte, .ref hpu, .int (nI n), .int hwa, .int (nI m), .ref hnu, .int (nI to)])), (hk, .inl (V.2.2.1, 7, .inl k)), (hfw, .inl (V.2.2.1, 7, .inl fw)), (hfg, .inl (V.2.2.1, 7, .inl fg)), (hwb, .inl (V.2.2.1, 7, .inl wb))] (fun (r : Int32) (u : Unit) => r = 0) (fun u => [(h, .inr (4, [.ref hk, .ref hfw, .ref hfg, .ref hwb, .ref hld, .ref hte, .ref hpu, .int (nI n), .int hwa, .int (nI m), .ref hnu, .int (nI to)])), (hk, .inl (V.2.2.1, 7, .inl k)), (hfw, .inl (V.2.2.1, 7, .inl fw)), (hfg, .inl (V.2.2.1, 7, .inl fg)), (hwb, .inl (V.2.2.1, 7, .inl wb))]) := by
  refine Ki.of [some (.ref h), some (.int (nI a)), some (.int (nI b)), some (.int (nI c))] (by decide) (Nat.le_of_ble_eq_true rfl) rfl rfl ?_
  intro Z X E
  have X : gX V Z RX4 cX4_takeClock 4 ({ frames := 0, cells := 0, slots := 0, locals := 0 }) := X
  refine g_aload_n X dX4_takeClock_0 rfl ?_
  refine g_get X uwX4 0 rfl rfl 7 (by decide) kl_X4_33 rfl rfl gwX4 dX4_takeClock_1 ?_
  refine g_bipush X (7) dX4_takeClock_4 (by decide) ?_
  refine g_icmp_ge X 27 dX4_takeClock_6 (by decide) (fun c6_1 => ?_) (fun c6_1 => ?_)
  · have c6_1n := ige' (a := n) (b := 7) c6_1 (by omega) (by omega)
    refine g_iconst X (0) dX4_takeClock_27 (by decide) ?_
    exact g_zret X E dX4_takeClock_28 () 0 rfl (by first | rfl | (simp [c6_1, c6_1n]; done)) rfl
  · have c6_1n := inge' (a := n) (b := 7) c6_1 (by omega) (by omega)
    refine g_iload_n X dX4_takeClock_9 rfl ?_
    refine g_iconst X (4) dX4_takeClock_10 (by decide) ?_
    refine g_icmp_gt X 27 dX4_takeClock_11 (by decide) (fun c11_2 => ?_) (fun c11_2 => ?_)
    · have c11_2n := igt' (a := a) (b := 4) c11_2 (by omega) (by omega)
      refine g_iconst X (0) dX4_takeClock_27 (by decide) ?_
      exact g_zret X E dX4_takeClock_28 () 0 rfl (by first | rfl | (simp [c6_1, c6_1n, c11_2, c11_2n]; done)) rfl
    · have c11_2n := ingt' (a := a) (b := 4) c11_2 (by omega) (by omega)
      refine g_iload_n X dX4_takeClock_14 rfl ?_
      refine g_sipush X (200) dX4_takeClock_15 (by decide) ?_
      refine g_icmp_gt X 27 dX4_takeClock_18 (by decide) (fun c18_3 => ?_) (fun c18_3 => ?_)
      · have c18_3n := igt' (a := b) (b := 200) c18_3 (by omega) (by omega)
        refine g_iconst X (0) dX4_takeClock_27 (by decide) ?_
        exact g_zret X E dX4_takeClock_28 () 0 rfl (by first | rfl | (simp [c6_1, c6_1n, c11_2, c11_2n, c18_3, c18_3n]; done)) rfl
      · have c18_3n := ingt' (a := b) (b := 200) c18_3 (by omega) (by omega)
        refine g_iload_n X dX4_takeClock_21 rfl ?_
        refine g_bipush X (20) dX4_takeClock_22 (by decide) ?_
        refine g_icmp_le X 29 dX4_takeClock_24 (by decide) (fun c24_4 => ?_) (fun c24_4 => ?_)
        · have c24_4n := ile' (a := c) (b := 20) c24_4 (by omega) (by omega)
          exact absurd ⟨by omega, by omega, by omega, by omega⟩ hok
        · have c24_4n := inle' (a := c) (b := 20) c24_4 (by omega) (by omega)
          refine g_iconst X (0) dX4_takeClock_27 (by decide) ?_
          exact g_zret X E dX4_takeClock_28 () 0 rfl (by first | rfl | (simp [c6_1, c6_1n, c11_2, c11_2n, c18_3, c18_3n, c24_4, c24_4n]; done)) rfl

set_option maxHeartbeats 4000000 in
set_option maxRecDepth 100000 in
theorem c_X4_takeWall_ok (V : gV) (h : Nat) (hk : Nat) (hfw : Nat) (hfg : Nat) (hwb : Nat) (hld : Nat) (hte : Nat) (hpu : Nat) (hnu : Nat) (n : Nat) (hwa : Int32) (m : Nat) (to : Nat) (wb : Nat → Int32) (a : Nat) (b : Nat) (hn : n ≤ 7) (hok : a < n ∧ b < n ∧ a ≠ b) : Ki V yX4_takeWall cX4_takeWall 3 .boolean ({ frames := 2, cells := 0, slots := 0, locals := 43 }) [.ref h, .int (nI a), .int (nI b)] [(h, .inr (4, [.ref hk, .ref hfw, .ref hfg, .ref hwb, .ref hld, .ref hte, .ref hpu, .int (nI n), .int hwa, .int (nI m), .ref hnu, .int (nI to)])), (hwb, .inl (V.2.2.1, 7, .inl wb))] (fun (r : Int32) (u : Int32 × (Nat → Int32)) => r = 1 ∧ u.1 = wallC wb a b hwa ∧ u.2 = wallB wb a b) (fun u => [(h, .inr (4, [.ref hk, .ref hfw, .ref hfg, .ref hwb, .ref hld, .ref hte, .ref hpu, .int (nI n), .int u.1, .int (nI m), .ref hnu, .int (nI to)])), (hwb, .inl (V.2.2.1, 7, .inl u.2))]) := by
  refine Ki.of [some (.ref h), some (.int (nI a)), some (.int (nI b))] (by decide) (Nat.le_of_ble_eq_true rfl) rfl rfl ?_
  intro Z X E
  have X : gX V Z RX4 cX4_takeWall 3 ({ frames := 2, cells := 0, slots := 0, locals := 43 }) := X
  refine g_aload_n X dX4_takeWall_0 rfl ?_
  refine g_iload_n X dX4_takeWall_1 rfl ?_
  refine g_iload_n X dX4_takeWall_2 rfl ?_
  refine g_callVi X (c_X4_hasBothN V h hk hfw hfg hwb hld hte hpu hnu n hwa m to a b (by omega) (by omega) (by omega)) mo_X4_hasBoth kl_X4_85 [0] [1, 0] rfl (by decide +kernel) rfl rfl (fun _ => Nat.le_of_ble_eq_true rfl) 0 4 rfl rfl (As := [.int (nI a), .int (nI b)]) (st := []) (cs' := (0, 0)) rfl rfl rfl rfl dX4_takeWall_3 (fun r_5 u_1 hp_2 ws_4 hw_3 => ?_)
  obtain rfl : r_5 = (if a < n ∧ b < n ∧ a ≠ b then 1 else 0) := hp_2
  have hw_3x : ws_4 = [(h, .inr (4, [.ref hk, .ref hfw, .ref hfg, .ref hwb, .ref hld, .ref hte, .ref hpu, .int (nI n), .int hwa, .int (nI m), .ref hnu, .int (nI to)])), (hwb, .inl (V.2.2.1, 7, .inl wb))] := hw_3.symm
  clear hw_3; subst hw_3x
  refine g_if_ne X 11 dX4_takeWall_6 (by decide) (fun c6_6 => ?_) (fun c6_6 => absurd c6_6 (by rw [if_pos hok]; decide))
  refine g_aload_n X dX4_takeWall_11 rfl ?_
  refine g_iload_n X dX4_takeWall_12 rfl ?_
  refine g_iload_n X dX4_takeWall_13 rfl ?_
  refine g_callVi X (c_X4_hasWall V h hk hfw hfg hwb hld hte hpu hnu n m hwa (nI to) wb a b (by omega)) mo_X4_hasWall kl_X4_88 [0, 1] [1, 2] rfl (by decide +kernel) rfl rfl (fun _ => Nat.le_of_ble_eq_true rfl) 0 4 rfl rfl (As := [.int (nI a), .int (nI b)]) (st := []) (cs' := (0, 0)) rfl rfl rfl rfl dX4_takeWall_14 (fun r_11 u_7 hp_8 ws_10 hw_9 => ?_)
  obtain rfl : r_11 = hasF (wb a) b := hp_8
  have hw_9x : ws_10 = [(h, .inr (4, [.ref hk, .ref hfw, .ref hfg, .ref hwb, .ref hld, .ref hte, .ref hpu, .int (nI n), .int hwa, .int (nI m), .ref hnu, .int (nI to)])), (hwb, .inl (V.2.2.1, 7, .inl wb))] := hw_9.symm
  clear hw_9; subst hw_9x
  refine g_if_ne X 70 dX4_takeWall_17 (by decide) (fun c17_12 => ?_) (fun c17_12 => ?_)
  · refine g_iconst X (1) dX4_takeWall_70 (by decide) ?_
    exact g_zret X E dX4_takeWall_71 ⟨hwa, wb⟩ 1 rfl ⟨rfl, (by simp [wallC, c17_12]), (by simp [wallB, bitF, c17_12])⟩ rfl
  · refine g_aload_n X dX4_takeWall_20 rfl ?_
    refine g_get X uwX4 0 rfl rfl 3 (by decide) kl_X4_21 rfl rfl gwX4 dX4_takeWall_21 ?_
    refine g_iload_n X dX4_takeWall_24 rfl ?_
    refine g_aload_n X dX4_takeWall_25 rfl ?_
    refine g_get X uwX4 0 rfl rfl 3 (by decide) kl_X4_21 rfl rfl gwX4 dX4_takeWall_26 ?_
    refine g_iload_n X dX4_takeWall_29 rfl ?_
    refine g_callNi X (c_X10_at V hwb 7 wb a (by omega) (by decide)) mo_X10_at kl_X4_70 [1] [0, 1] rfl (by decide +kernel) rfl rfl (fun _ => Nat.le_of_ble_eq_true rfl) (As := [.ref hwb, .int (nI a)]) (st := [.int (nI a), .ref hwb]) (cs' := (0, 0)) rfl rfl rfl dX4_takeWall_30 (fun r_17 u_13 hp_14 ws_16 hw_15 => ?_)
    obtain rfl : r_17 = wb a := hp_14
    have hw_15x : ws_16 = [(h, .inr (4, [.ref hk, .ref hfw, .ref hfg, .ref hwb, .ref hld, .ref hte, .ref hpu, .int (nI n), .int hwa, .int (nI m), .ref hnu, .int (nI to)])), (hwb, .inl (V.2.2.1, 7, .inl wb))] := hw_15.symm
    clear hw_15; subst hw_15x
    refine g_iconst X (1) dX4_takeWall_33 (by decide) ?_
    refine g_iload_n X dX4_takeWall_34 rfl ?_
    refine g_ishl X dX4_takeWall_35 ?_
    refine g_ior X dX4_takeWall_36 ?_
    refine g_callNv X (c_X10_put V hwb 7 wb a ((wb a) ||| (1 <<< ((nI b) &&& 31))) (by omega) (by decide)) mo_X10_put kl_X4_66 [1] [0, 1] rfl (by decide +kernel) rfl rfl (fun _ => Nat.le_of_ble_eq_true rfl) (As := [.ref hwb, .int (nI a), .int ((wb a) ||| (1 <<< ((nI b) &&& 31)))]) (st := []) (cs' := (0, 0)) rfl rfl rfl dX4_takeWall_37 (fun nf_18 hp_19 ws_21 hw_20 => ?_)
    obtain rfl : nf_18 = upd wb a ((wb a) ||| (1 <<< ((nI b) &&& 31))) := hp_19
    have hw_20x : ws_21 = [(h, .inr (4, [.ref hk, .ref hfw, .ref hfg, .ref hwb, .ref hld, .ref hte, .ref hpu, .int (nI n), .int hwa, .int (nI m), .ref hnu, .int (nI to)])), (hwb, .inl (V.2.2.1, 7, .inl (upd wb a ((wb a) ||| (1 <<< ((nI b) &&& 31))))))] := hw_20.symm
    clear hw_20; subst hw_20x
    refine g_aload_n X dX4_takeWall_40 rfl ?_
    refine g_get X uwX4 0 rfl rfl 3 (by decide) kl_X4_21 rfl rfl gwX4 dX4_takeWall_41 ?_
    refine g_iload_n X dX4_takeWall_44 rfl ?_
    refine g_aload_n X dX4_takeWall_45 rfl ?_
    refine g_get X uwX4 0 rfl rfl 3 (by decide) kl_X4_21 rfl rfl gwX4 dX4_takeWall_46 ?_
    refine g_iload_n X dX4_takeWall_49 rfl ?_
    refine g_callNi X (c_X10_at V hwb 7 (upd wb a ((wb a) ||| (1 <<< ((nI b) &&& 31)))) b (by omega) (by decide)) mo_X10_at kl_X4_70 [1] [0, 1] rfl (by decide +kernel) rfl rfl (fun _ => Nat.le_of_ble_eq_true rfl) (As := [.ref hwb, .int (nI b)]) (st := [.int (nI b), .ref hwb]) (cs' := (0, 0)) rfl rfl rfl dX4_takeWall_50 (fun r_27 u_23 hp_24 ws_26 hw_25 => ?_)
    obtain rfl : r_27 = (upd wb a ((wb a) ||| (1 <<< ((nI b) &&& 31)))) b := hp_24
    have hw_25x : ws_26 = [(h, .inr (4, [.ref hk, .ref hfw, .ref hfg, .ref hwb, .ref hld, .ref hte, .ref hpu, .int (nI n), .int hwa, .int (nI m), .ref hnu, .int (nI to)])), (hwb, .inl (V.2.2.1, 7, .inl (upd wb a ((wb a) ||| (1 <<< ((nI b) &&& 31))))))] := hw_25.symm
    clear hw_25; subst hw_25x
    refine g_iconst X (1) dX4_takeWall_53 (by decide) ?_
    refine g_iload_n X dX4_takeWall_54 rfl ?_
    refine g_ishl X dX4_takeWall_55 ?_
    refine g_ior X dX4_takeWall_56 ?_
    refine g_callNv X (c_X10_put V hwb 7 (upd wb a ((wb a) ||| (1 <<< ((nI b) &&& 31)))) b (((upd wb a ((wb a) ||| (1 <<< ((nI b) &&& 31)))) b) ||| (1 <<< ((nI a) &&& 31))) (by omega) (by decide)) mo_X10_put kl_X4_66 [1] [0, 1] rfl (by decide +kernel) rfl rfl (fun _ => Nat.le_of_ble_eq_true rfl) (As := [.ref hwb, .int (nI b), .int (((upd wb a ((wb a) ||| (1 <<< ((nI b) &&& 31)))) b) ||| (1 <<< ((nI a) &&& 31)))]) (st := []) (cs' := (0, 0)) rfl rfl rfl dX4_takeWall_57 (fun nf_28 hp_29 ws_31 hw_30 => ?_)
    obtain rfl : nf_28 = upd (upd wb a ((wb a) ||| (1 <<< ((nI b) &&& 31)))) b (((upd wb a ((wb a) ||| (1 <<< ((nI b) &&& 31)))) b) ||| (1 <<< ((nI a) &&& 31))) := hp_29
    have hw_30x : ws_31 = [(h, .inr (4, [.ref hk, .ref hfw, .ref hfg, .ref hwb, .ref hld, .ref hte, .ref hpu, .int (nI n), .int hwa, .int (nI m), .ref hnu, .int (nI to)])), (hwb, .inl (V.2.2.1, 7, .inl (upd (upd wb a ((wb a) ||| (1 <<< ((nI b) &&& 31)))) b (((upd wb a ((wb a) ||| (1 <<< ((nI b) &&& 31)))) b) ||| (1 <<< ((nI a) &&& 31))))))] := hw_30.symm
    clear hw_30; subst hw_30x
    refine g_aload_n X dX4_takeWall_60 rfl ?_
    refine g_dup X dX4_takeWall_61 rfl ?_
    refine g_get X uwX4 0 rfl rfl 8 (by decide) kl_X4_37 rfl rfl gwX4 dX4_takeWall_62 ?_
    refine g_iconst X (1) dX4_takeWall_65 (by decide) ?_
    refine g_iadd X dX4_takeWall_66 ?_
    refine g_put X uwX4 tyX4 tyX4_ok nmX4 0 rfl rfl 8 (by decide) kl_X4_37 rfl rfl rfl rfl (Nat.le_of_ble_eq_true rfl) gwX4 (ws' := [(h, .inr (4, [.ref hk, .ref hfw, .ref hfg, .ref hwb, .ref hld, .ref hte, .ref hpu, .int (nI n), .int (hwa + 1), .int (nI m), .ref hnu, .int (nI to)])), (hwb, .inl (V.2.2.1, 7, .inl (upd (upd wb a ((wb a) ||| (1 <<< ((nI b) &&& 31)))) b (((upd wb a ((wb a) ||| (1 <<< ((nI b) &&& 31)))) b) ||| (1 <<< ((nI a) &&& 31))))))]) rfl dX4_takeWall_67 ?_
    refine g_iconst X (1) dX4_takeWall_70 (by decide) ?_
    exact g_zret X E dX4_takeWall_71 ⟨hwa + 1, upd (upd wb a ((wb a) ||| (1 <<< ((nI b) &&& 31)))) b (((upd wb a ((wb a) ||| (1 <<< ((nI b) &&& 31)))) b) ||| (1 <<< ((nI a) &&& 31)))⟩ 1 rfl ⟨rfl, (by simp [wallC, c17_12]), (by simp [wallB, bitF, c17_12])⟩ rfl

set_option maxHeartbeats 4000000 in
set_option maxRecDepth 100000 in
theorem c_X4_takeWall_no (V : gV) (h : Nat) (hk : Nat) (hfw : Nat) (hfg : Nat) (hwb : Nat) (hld : Nat) (hte : Nat) (hpu : Nat) (hnu : Nat) (n : Nat) (hwa : Int32) (m : Nat) (to : Nat) (wb : Nat → Int32) (a : Nat) (b : Nat) (hn : n ≤ 7) (hok : ¬ (a < n ∧ b < n ∧ a ≠ b)) (hb_a : a < 1000) (hb_b : b < 1000) : Ki V yX4_takeWall cX4_takeWall 3 .boolean ({ frames := 2, cells := 0, slots := 0, locals := 43 }) [.ref h, .int (nI a), .int (nI b)] [(h, .inr (4, [.ref hk, .ref hfw, .ref hfg, .ref hwb, .ref hld, .ref hte, .ref hpu, .int (nI n), .int hwa, .int (nI m), .ref hnu, .int (nI to)])), (hwb, .inl (V.2.2.1, 7, .inl wb))] (fun (r : Int32) (u : Unit) => r = 0) (fun u => [(h, .inr (4, [.ref hk, .ref hfw, .ref hfg, .ref hwb, .ref hld, .ref hte, .ref hpu, .int (nI n), .int hwa, .int (nI m), .ref hnu, .int (nI to)])), (hwb, .inl (V.2.2.1, 7, .inl wb))]) := by
  refine Ki.of [some (.ref h), some (.int (nI a)), some (.int (nI b))] (by decide) (Nat.le_of_ble_eq_true rfl) rfl rfl ?_
  intro Z X E
  have X : gX V Z RX4 cX4_takeWall 3 ({ frames := 2, cells := 0, slots := 0, locals := 43 }) := X
  refine g_aload_n X dX4_takeWall_0 rfl ?_
  refine g_iload_n X dX4_takeWall_1 rfl ?_
  refine g_iload_n X dX4_takeWall_2 rfl ?_
  refine g_callVi X (c_X4_hasBothN V h hk hfw hfg hwb hld hte hpu hnu n hwa m to a b (by omega) (by omega) (by omega)) mo_X4_hasBoth kl_X4_85 [0] [1, 0] rfl (by decide +kernel) rfl rfl (fun _ => Nat.le_of_ble_eq_true rfl) 0 4 rfl rfl (As := [.int (nI a), .int (nI b)]) (st := []) (cs' := (0, 0)) rfl rfl rfl rfl dX4_takeWall_3 (fun r_5 u_1 hp_2 ws_4 hw_3 => ?_)
  obtain rfl : r_5 = (if a < n ∧ b < n ∧ a ≠ b then 1 else 0) := hp_2
  have hw_3x : ws_4 = [(h, .inr (4, [.ref hk, .ref hfw, .ref hfg, .ref hwb, .ref hld, .ref hte, .ref hpu, .int (nI n), .int hwa, .int (nI m), .ref hnu, .int (nI to)])), (hwb, .inl (V.2.2.1, 7, .inl wb))] := hw_3.symm
  clear hw_3; subst hw_3x
  refine g_if_ne X 11 dX4_takeWall_6 (by decide) (fun c6_6 => absurd (by rw [if_neg hok]) c6_6) (fun c6_6 => ?_)
  refine g_iconst X (0) dX4_takeWall_9 (by decide) ?_
  exact g_zret X E dX4_takeWall_10 () 0 rfl (by first | rfl | (simp [c6_6]; done)) rfl

set_option maxHeartbeats 4000000 in
set_option maxRecDepth 100000 in
theorem c_X4_takeLesson_ok (V : gV) (h : Nat) (hk : Nat) (hfw : Nat) (hfg : Nat) (hwb : Nat) (hld : Nat) (hte : Nat) (hpu : Nat) (hnu : Nat) (n : Nat) (hwa : Int32) (m : Nat) (to : Nat) (ld : Nat → Nat) (te : Nat → Nat) (pu : Nat → Nat) (d : Nat) (a : Nat) (b : Nat) (hn : n ≤ 7) (hok : m < 9 ∧ d < 14 ∧ a < n ∧ b < n ∧ a ≠ b) : Ki V yX4_takeLesson cX4_takeLesson 4 .boolean ({ frames := 2, cells := 0, slots := 0, locals := 43 }) [.ref h, .int (nI d), .int (nI a), .int (nI b)] [(h, .inr (4, [.ref hk, .ref hfw, .ref hfg, .ref hwb, .ref hld, .ref hte, .ref hpu, .int (nI n), .int hwa, .int (nI m), .ref hnu, .int (nI to)])), (hld, .inl (V.2.2.1, 9, .inl (nIf ld))), (hte, .inl (V.2.2.1, 9, .inl (nIf te))), (hpu, .inl (V.2.2.1, 9, .inl (nIf pu)))] (fun (r : Int32) (u : Unit) => r = 1) (fun u => [(h, .inr (4, [.ref hk, .ref hfw, .ref hfg, .ref hwb, .ref hld, .ref hte, .ref hpu, .int (nI n), .int hwa, .int (nI (m + 1)), .ref hnu, .int (nI to)])), (hld, .inl (V.2.2.1, 9, .inl (nIf (updN ld m d)))), (hte, .inl (V.2.2.1, 9, .inl (nIf (updN te m a)))), (hpu, .inl (V.2.2.1, 9, .inl (nIf (updN pu m b))))]) := by
  refine Ki.of [some (.ref h), some (.int (nI d)), some (.int (nI a)), some (.int (nI b))] (by decide) (Nat.le_of_ble_eq_true rfl) rfl rfl ?_
  intro Z X E
  have X : gX V Z RX4 cX4_takeLesson 4 ({ frames := 2, cells := 0, slots := 0, locals := 43 }) := X
  refine g_aload_n X dX4_takeLesson_0 rfl ?_
  refine g_get X uwX4 0 rfl rfl 9 (by decide) kl_X4_40 rfl rfl gwX4 dX4_takeLesson_1 ?_
  refine g_bipush X (9) dX4_takeLesson_4 (by decide) ?_
  refine g_icmp_ge X 24 dX4_takeLesson_6 (by decide) (fun c6_1 => absurd c6_1 (fge (a := m) (b := 9) (by omega) (by omega) (by omega))) (fun c6_1 => ?_)
  refine g_iload_n X dX4_takeLesson_9 rfl ?_
  refine g_bipush X (14) dX4_takeLesson_10 (by decide) ?_
  refine g_icmp_ge X 24 dX4_takeLesson_12 (by decide) (fun c12_2 => absurd c12_2 (fge (a := d) (b := 14) (by omega) (by omega) (by omega))) (fun c12_2 => ?_)
  refine g_aload_n X dX4_takeLesson_15 rfl ?_
  refine g_iload_n X dX4_takeLesson_16 rfl ?_
  refine g_iload_n X dX4_takeLesson_17 rfl ?_
  refine g_callVi X (c_X4_hasBothN V h hk hfw hfg hwb hld hte hpu hnu n hwa m to a b (by omega) (by omega) (by omega)) mo_X4_hasBoth kl_X4_85 [0] [1, 0, 0, 0] rfl (by decide +kernel) rfl rfl (fun _ => Nat.le_of_ble_eq_true rfl) 0 4 rfl rfl (As := [.int (nI a), .int (nI b)]) (st := []) (cs' := (0, 0)) rfl rfl rfl rfl dX4_takeLesson_18 (fun r_7 u_3 hp_4 ws_6 hw_5 => ?_)
  obtain rfl : r_7 = (if a < n ∧ b < n ∧ a ≠ b then 1 else 0) := hp_4
  have hw_5x : ws_6 = [(h, .inr (4, [.ref hk, .ref hfw, .ref hfg, .ref hwb, .ref hld, .ref hte, .ref hpu, .int (nI n), .int hwa, .int (nI m), .ref hnu, .int (nI to)])), (hld, .inl (V.2.2.1, 9, .inl (nIf ld))), (hte, .inl (V.2.2.1, 9, .inl (nIf te))), (hpu, .inl (V.2.2.1, 9, .inl (nIf pu)))] := hw_5.symm
  clear hw_5; subst hw_5x
  refine g_if_ne X 26 dX4_takeLesson_21 (by decide) (fun c21_8 => ?_) (fun c21_8 => absurd c21_8 (by rw [if_pos ⟨hok.2.2.1, hok.2.2.2.1, hok.2.2.2.2⟩]; decide))
  refine g_aload_n X dX4_takeLesson_26 rfl ?_
  refine g_get X uwX4 0 rfl rfl 4 (by decide) kl_X4_24 rfl rfl gwX4 dX4_takeLesson_27 ?_
  refine g_aload_n X dX4_takeLesson_30 rfl ?_
  refine g_get X uwX4 0 rfl rfl 9 (by decide) kl_X4_40 rfl rfl gwX4 dX4_takeLesson_31 ?_
  refine g_iload_n X dX4_takeLesson_34 rfl ?_
  refine g_callNv X (c_X10_put V hld 9 (nIf ld) m (nI d) (by omega) (by decide)) mo_X10_put kl_X4_66 [1] [0, 1, 0, 0] rfl (by decide +kernel) rfl rfl (fun _ => Nat.le_of_ble_eq_true rfl) (As := [.ref hld, .int (nI m), .int (nI d)]) (st := []) (cs' := (0, 0)) rfl rfl rfl dX4_takeLesson_35 (fun nf_9 hp_10 ws_12 hw_11 => ?_)
  obtain rfl : nf_9 = upd (nIf ld) m (nI d) := hp_10
  have hw_11x : ws_12 = [(h, .inr (4, [.ref hk, .ref hfw, .ref hfg, .ref hwb, .ref hld, .ref hte, .ref hpu, .int (nI n), .int hwa, .int (nI m), .ref hnu, .int (nI to)])), (hld, .inl (V.2.2.1, 9, .inl (upd (nIf ld) m (nI d)))), (hte, .inl (V.2.2.1, 9, .inl (nIf te))), (hpu, .inl (V.2.2.1, 9, .inl (nIf pu)))] := hw_11.symm
  clear hw_11; subst hw_11x
  refine g_aload_n X dX4_takeLesson_38 rfl ?_
  refine g_get X uwX4 0 rfl rfl 5 (by decide) kl_X4_27 rfl rfl gwX4 dX4_takeLesson_39 ?_
  refine g_aload_n X dX4_takeLesson_42 rfl ?_
  refine g_get X uwX4 0 rfl rfl 9 (by decide) kl_X4_40 rfl rfl gwX4 dX4_takeLesson_43 ?_
  refine g_iload_n X dX4_takeLesson_46 rfl ?_
  refine g_callNv X (c_X10_put V hte 9 (nIf te) m (nI a) (by omega) (by decide)) mo_X10_put kl_X4_66 [2] [0, 0, 1, 0] rfl (by decide +kernel) rfl rfl (fun _ => Nat.le_of_ble_eq_true rfl) (As := [.ref hte, .int (nI m), .int (nI a)]) (st := []) (cs' := (0, 0)) rfl rfl rfl dX4_takeLesson_47 (fun nf_14 hp_15 ws_17 hw_16 => ?_)
  obtain rfl : nf_14 = upd (nIf te) m (nI a) := hp_15
  have hw_16x : ws_17 = [(h, .inr (4, [.ref hk, .ref hfw, .ref hfg, .ref hwb, .ref hld, .ref hte, .ref hpu, .int (nI n), .int hwa, .int (nI m), .ref hnu, .int (nI to)])), (hld, .inl (V.2.2.1, 9, .inl (upd (nIf ld) m (nI d)))), (hte, .inl (V.2.2.1, 9, .inl (upd (nIf te) m (nI a)))), (hpu, .inl (V.2.2.1, 9, .inl (nIf pu)))] := hw_16.symm
  clear hw_16; subst hw_16x
  refine g_aload_n X dX4_takeLesson_50 rfl ?_
  refine g_get X uwX4 0 rfl rfl 6 (by decide) kl_X4_30 rfl rfl gwX4 dX4_takeLesson_51 ?_
  refine g_aload_n X dX4_takeLesson_54 rfl ?_
  refine g_get X uwX4 0 rfl rfl 9 (by decide) kl_X4_40 rfl rfl gwX4 dX4_takeLesson_55 ?_
  refine g_iload_n X dX4_takeLesson_58 rfl ?_
  refine g_callNv X (c_X10_put V hpu 9 (nIf pu) m (nI b) (by omega) (by decide)) mo_X10_put kl_X4_66 [3] [0, 0, 0, 1] rfl (by decide +kernel) rfl rfl (fun _ => Nat.le_of_ble_eq_true rfl) (As := [.ref hpu, .int (nI m), .int (nI b)]) (st := []) (cs' := (0, 0)) rfl rfl rfl dX4_takeLesson_59 (fun nf_19 hp_20 ws_22 hw_21 => ?_)
  obtain rfl : nf_19 = upd (nIf pu) m (nI b) := hp_20
  have hw_21x : ws_22 = [(h, .inr (4, [.ref hk, .ref hfw, .ref hfg, .ref hwb, .ref hld, .ref hte, .ref hpu, .int (nI n), .int hwa, .int (nI m), .ref hnu, .int (nI to)])), (hld, .inl (V.2.2.1, 9, .inl (upd (nIf ld) m (nI d)))), (hte, .inl (V.2.2.1, 9, .inl (upd (nIf te) m (nI a)))), (hpu, .inl (V.2.2.1, 9, .inl (upd (nIf pu) m (nI b))))] := hw_21.symm
  clear hw_21; subst hw_21x
  refine g_aload_n X dX4_takeLesson_62 rfl ?_
  refine g_dup X dX4_takeLesson_63 rfl ?_
  refine g_get X uwX4 0 rfl rfl 9 (by decide) kl_X4_40 rfl rfl gwX4 dX4_takeLesson_64 ?_
  refine g_iconst X (1) dX4_takeLesson_67 (by decide) ?_
  refine g_iadd X dX4_takeLesson_68 ?_
  refine g_toe (x' := nI (m + 1)) (nI_add' rfl rfl) ?_
  refine g_put X uwX4 tyX4 tyX4_ok nmX4 0 rfl rfl 9 (by decide) kl_X4_40 rfl rfl rfl rfl (Nat.le_of_ble_eq_true rfl) gwX4 (ws' := [(h, .inr (4, [.ref hk, .ref hfw, .ref hfg, .ref hwb, .ref hld, .ref hte, .ref hpu, .int (nI n), .int hwa, .int (nI (m + 1)), .ref hnu, .int (nI to)])), (hld, .inl (V.2.2.1, 9, .inl (upd (nIf ld) m (nI d)))), (hte, .inl (V.2.2.1, 9, .inl (upd (nIf te) m (nI a)))), (hpu, .inl (V.2.2.1, 9, .inl (upd (nIf pu) m (nI b))))]) rfl dX4_takeLesson_69 ?_
  refine g_iconst X (1) dX4_takeLesson_72 (by decide) ?_
  refine g_arr 1 (nIf (updN ld m d)) rfl (fun j _ => updN_eq ld m d j) (ws' := [(h, .inr (4, [.ref hk, .ref hfw, .ref hfg, .ref hwb, .ref hld, .ref hte, .ref hpu, .int (nI n), .int hwa, .int (nI (m + 1)), .ref hnu, .int (nI to)])), (hld, .inl (V.2.2.1, 9, .inl (nIf (updN ld m d)))), (hte, .inl (V.2.2.1, 9, .inl (upd (nIf te) m (nI a)))), (hpu, .inl (V.2.2.1, 9, .inl (upd (nIf pu) m (nI b))))]) rfl ?_
  refine g_arr 2 (nIf (updN te m a)) rfl (fun j _ => updN_eq te m a j) (ws' := [(h, .inr (4, [.ref hk, .ref hfw, .ref hfg, .ref hwb, .ref hld, .ref hte, .ref hpu, .int (nI n), .int hwa, .int (nI (m + 1)), .ref hnu, .int (nI to)])), (hld, .inl (V.2.2.1, 9, .inl (nIf (updN ld m d)))), (hte, .inl (V.2.2.1, 9, .inl (nIf (updN te m a)))), (hpu, .inl (V.2.2.1, 9, .inl (upd (nIf pu) m (nI b))))]) rfl ?_
  refine g_arr 3 (nIf (updN pu m b)) rfl (fun j _ => updN_eq pu m b j) (ws' := [(h, .inr (4, [.ref hk, .ref hfw, .ref hfg, .ref hwb, .ref hld, .ref hte, .ref hpu, .int (nI n), .int hwa, .int (nI (m + 1)), .ref hnu, .int (nI to)])), (hld, .inl (V.2.2.1, 9, .inl (nIf (updN ld m d)))), (hte, .inl (V.2.2.1, 9, .inl (nIf (updN te m a)))), (hpu, .inl (V.2.2.1, 9, .inl (nIf (updN pu m b))))]) rfl ?_
  exact g_zret X E dX4_takeLesson_73 () 1 rfl (by first | rfl | (simp [c6_1, c12_2, c21_8]; done)) rfl

set_option maxHeartbeats 4000000 in
set_option maxRecDepth 100000 in
theorem c_X4_takeLesson_no (V : gV) (h : Nat) (hk : Nat) (hfw : Nat) (hfg : Nat) (hwb : Nat) (hld : Nat) (hte : Nat) (hpu : Nat) (hnu : Nat) (n : Nat) (hwa : Int32) (m : Nat) (to : Nat) (ld : Nat → Nat) (te : Nat → Nat) (pu : Nat → Nat) (d : Nat) (a : Nat) (b : Nat) (hn : n ≤ 7) (hm : m ≤ 9) (hok : ¬ (m < 9 ∧ d < 14 ∧ a < n ∧ b < n ∧ a ≠ b)) (hb_d : d < 1000) (hb_a : a < 1000) (hb_b : b < 1000) : Ki V yX4_takeLesson cX4_takeLesson 4 .boolean ({ frames := 2, cells := 0, slots := 0, locals := 43 }) [.ref h, .int (nI d), .int (nI a), .int (nI b)] [(h, .inr (4, [.ref hk, .ref hfw, .ref hfg, .ref hwb, .ref hld, .ref hte, .ref hpu, .int (nI n), .int hwa, .int (nI m), .ref hnu, .int (nI to)])), (hld, .inl (V.2.2.1, 9, .inl (nIf ld))), (hte, .inl (V.2.2.1, 9, .inl (nIf te))), (hpu, .inl (V.2.2.1, 9, .inl (nIf pu)))] (fun (r : Int32) (u : Unit) => r = 0) (fun u => [(h, .inr (4, [.ref hk, .ref hfw, .ref hfg, .ref hwb, .ref hld, .ref hte, .ref hpu, .int (nI n), .int hwa, .int (nI m), .ref hnu, .int (nI to)])), (hld, .inl (V.2.2.1, 9, .inl (nIf ld))), (hte, .inl (V.2.2.1, 9, .inl (nIf te))), (hpu, .inl (V.2.2.1, 9, .inl (nIf pu)))]) := by
  refine Ki.of [some (.ref h), some (.int (nI d)), some (.int (nI a)), some (.int (nI b))] (by decide) (Nat.le_of_ble_eq_true rfl) rfl rfl ?_
  intro Z X E
  have X : gX V Z RX4 cX4_takeLesson 4 ({ frames := 2, cells := 0, slots := 0, locals := 43 }) := X
  refine g_aload_n X dX4_takeLesson_0 rfl ?_
  refine g_get X uwX4 0 rfl rfl 9 (by decide) kl_X4_40 rfl rfl gwX4 dX4_takeLesson_1 ?_
  refine g_bipush X (9) dX4_takeLesson_4 (by decide) ?_
  refine g_icmp_ge X 24 dX4_takeLesson_6 (by decide) (fun c6_1 => ?_) (fun c6_1 => ?_)
  · have c6_1n := ige' (a := m) (b := 9) c6_1 (by omega) (by omega)
    refine g_iconst X (0) dX4_takeLesson_24 (by decide) ?_
    exact g_zret X E dX4_takeLesson_25 () 0 rfl (by first | rfl | (simp [c6_1, c6_1n]; done)) rfl
  · have c6_1n := inge' (a := m) (b := 9) c6_1 (by omega) (by omega)
    refine g_iload_n X dX4_takeLesson_9 rfl ?_
    refine g_bipush X (14) dX4_takeLesson_10 (by decide) ?_
    refine g_icmp_ge X 24 dX4_takeLesson_12 (by decide) (fun c12_2 => ?_) (fun c12_2 => ?_)
    · have c12_2n := ige' (a := d) (b := 14) c12_2 (by omega) (by omega)
      refine g_iconst X (0) dX4_takeLesson_24 (by decide) ?_
      exact g_zret X E dX4_takeLesson_25 () 0 rfl (by first | rfl | (simp [c6_1, c6_1n, c12_2, c12_2n]; done)) rfl
    · have c12_2n := inge' (a := d) (b := 14) c12_2 (by omega) (by omega)
      refine g_aload_n X dX4_takeLesson_15 rfl ?_
      refine g_iload_n X dX4_takeLesson_16 rfl ?_
      refine g_iload_n X dX4_takeLesson_17 rfl ?_
      refine g_callVi X (c_X4_hasBothN V h hk hfw hfg hwb hld hte hpu hnu n hwa m to a b (by omega) (by omega) (by omega)) mo_X4_hasBoth kl_X4_85 [0] [1, 0, 0, 0] rfl (by decide +kernel) rfl rfl (fun _ => Nat.le_of_ble_eq_true rfl) 0 4 rfl rfl (As := [.int (nI a), .int (nI b)]) (st := []) (cs' := (0, 0)) rfl rfl rfl rfl dX4_takeLesson_18 (fun r_7 u_3 hp_4 ws_6 hw_5 => ?_)
      obtain rfl : r_7 = (if a < n ∧ b < n ∧ a ≠ b then 1 else 0) := hp_4
      have hw_5x : ws_6 = [(h, .inr (4, [.ref hk, .ref hfw, .ref hfg, .ref hwb, .ref hld, .ref hte, .ref hpu, .int (nI n), .int hwa, .int (nI m), .ref hnu, .int (nI to)])), (hld, .inl (V.2.2.1, 9, .inl (nIf ld))), (hte, .inl (V.2.2.1, 9, .inl (nIf te))), (hpu, .inl (V.2.2.1, 9, .inl (nIf pu)))] := hw_5.symm
      clear hw_5; subst hw_5x
      refine g_if_ne X 26 dX4_takeLesson_21 (by decide) (fun c21_8 => absurd (by rw [if_neg (fun z => hok ⟨by omega, by omega, z.1, z.2.1, z.2.2⟩)]) c21_8) (fun c21_8 => ?_)
      refine g_iconst X (0) dX4_takeLesson_24 (by decide) ?_
      exact g_zret X E dX4_takeLesson_25 () 0 rfl (by first | rfl | (simp [c6_1, c6_1n, c12_2, c12_2n, c21_8]; done)) rfl

set_option maxHeartbeats 4000000 in
set_option maxRecDepth 100000 in
theorem c_X4_readNumbers (V : gV) (h : Nat) (hk : Nat) (hfw : Nat) (hfg : Nat) (hwb : Nat) (hld : Nat) (hte : Nat) (hpu : Nat) (hnu : Nat) (hn_ : Int32) (hwa : Int32) (hm_ : Int32) (to0 : Int32) (nu : Nat → Nat) (t : Nat) (tl : Nat) (tf : Nat → Nat) (x : Nat) (p0 : Nat) (hx : x ≤ 200) (hl : ∀ i, i < x → tf i < 1000) (hp0 : p0 ≤ x) : Ki V yX4_readNumbers cX4_readNumbers 7 .int ({ frames := 2, cells := 0, slots := 0, locals := 42 }) [.ref h, .ref t, .int (nI p0)] [(h, .inr (4, [.ref hk, .ref hfw, .ref hfg, .ref hwb, .ref hld, .ref hte, .ref hpu, .int hn_, .int hwa, .int hm_, .ref hnu, .int to0])), (hnu, .inl (V.2.2.1, 3, .inl (nIf nu))), (t, .inr (9, [.ref tl, .int (nI x)])), (tl, .inl (V.2.2.1, 200, .inl (nIf tf)))] (fun (r : Int32) (u : Nat × (Nat → Nat)) => r = resI (rdN tf (x - p0) p0 0 0 0 nu).1 ∧ u.1 = (rdN tf (x - p0) p0 0 0 0 nu).2.1 ∧ u.2 = (rdN tf (x - p0) p0 0 0 0 nu).2.2) (fun u => [(h, .inr (4, [.ref hk, .ref hfw, .ref hfg, .ref hwb, .ref hld, .ref hte, .ref hpu, .int hn_, .int hwa, .int hm_, .ref hnu, .int (nI u.1)])), (hnu, .inl (V.2.2.1, 3, .inl (nIf u.2))), (t, .inr (9, [.ref tl, .int (nI x)])), (tl, .inl (V.2.2.1, 200, .inl (nIf tf)))]) := by
  refine Ki.of [some (.ref h), some (.ref t), some (.int (nI p0)), none, none, none, none] (by decide) (Nat.le_of_ble_eq_true rfl) rfl rfl ?_
  intro Z X E
  have X : gX V Z RX4 cX4_readNumbers 7 ({ frames := 2, cells := 0, slots := 0, locals := 42 }) := X
  refine g_aload_n X dX4_readNumbers_0 rfl ?_
  refine g_iconst X (0) dX4_readNumbers_1 (by decide) ?_
  refine g_put X uwX4 tyX4 tyX4_ok nmX4 0 rfl rfl 11 (by decide) kl_X4_46 rfl rfl rfl rfl (Nat.le_of_ble_eq_true rfl) gwX4 (ws' := [(h, .inr (4, [.ref hk, .ref hfw, .ref hfg, .ref hwb, .ref hld, .ref hte, .ref hpu, .int hn_, .int hwa, .int hm_, .ref hnu, .int 0])), (hnu, .inl (V.2.2.1, 3, .inl (nIf nu))), (t, .inr (9, [.ref tl, .int (nI x)])), (tl, .inl (V.2.2.1, 200, .inl (nIf tf)))]) rfl dX4_readNumbers_2 ?_
  refine g_iconst X (0) dX4_readNumbers_5 (by decide) ?_
  refine g_istore_n X (L' := [some (.ref h), some (.ref t), some (.int (nI p0)), some (.int 0), none, none, none]) dX4_readNumbers_6 (by decide) rfl rfl ?_
  refine g_iconst X (0) dX4_readNumbers_7 (by decide) ?_
  refine g_istore X (L' := [some (.ref h), some (.ref t), some (.int (nI p0)), some (.int 0), some (.int 0), none, none]) dX4_readNumbers_8 (by decide) rfl rfl ?_
  refine g_iload_n X dX4_readNumbers_10 rfl ?_
  refine g_istore X (L' := [some (.ref h), some (.ref t), some (.int (nI p0)), some (.int 0), some (.int 0), some (.int (nI p0)), none]) dX4_readNumbers_11 (by decide) rfl rfl ?_
  have loop13 : ∀ (d13 p : Nat), p + d13 = x → ∀ (fig : Nat) (num : Nat) (to : Nat) (nu1 : Nat → Nat) (hf0 : fig = 0 → num = 0) (hf1 : fig = 1 → num ≤ 9) (hf2 : fig = 2 → num ≤ 99) (hf3 : num ≤ 999 ∧ fig ≤ 3 ∧ to ≤ 3) (hrd : rdN tf (x - p0) p0 0 0 0 nu = rdN tf (x - p) p fig num to nu1), G V Z 7 (0, 0) [(h, .inr (4, [.ref hk, .ref hfw, .ref hfg, .ref hwb, .ref hld, .ref hte, .ref hpu, .int hn_, .int hwa, .int hm_, .ref hnu, .int (nI to)])), (hnu, .inl (V.2.2.1, 3, .inl (nIf nu1))), (t, .inr (9, [.ref tl, .int (nI x)])), (tl, .inl (V.2.2.1, 200, .inl (nIf tf)))] 13 [some (.ref h), some (.ref t), some (.int (nI p0)), some (.int (nI fig)), some (.int (nI num)), some (.int (nI p)), none] [] := by
    intro d13
    induction d13 with
    | zero =>
      intro p hp fig num to nu1 hf0 hf1 hf2 hf3 hrd
      refine g_iload X dX4_readNumbers_13 rfl ?_
      refine g_aload_n X dX4_readNumbers_15 rfl ?_
      refine g_getN X uwX9 2 rfl rfl 1 (by decide) kl_X4_49 rfl rfl gwX9 dX4_readNumbers_16 ?_
      refine g_icmp_ge X 153 dX4_readNumbers_19 (by decide) (fun c19_1 => ?_) (fun c19_1 => absurd (tge (a := p) (b := x) (by omega) (by omega) (by omega)) c19_1)
      refine g_bipush X (-4) dX4_readNumbers_153 (by decide) ?_
      exact g_iret X E dX4_readNumbers_155 ⟨to, nu1⟩ (-4) ⟨(by rw [hrd, show x - p = 0 by omega, rdN]; rfl), (by rw [hrd, show x - p = 0 by omega, rdN]), (by rw [hrd, show x - p = 0 by omega, rdN])⟩ rfl
    | succ d13 ih13 =>
      intro p hp fig num to nu1 hf0 hf1 hf2 hf3 hrd
      refine g_iload X dX4_readNumbers_13 rfl ?_
      refine g_aload_n X dX4_readNumbers_15 rfl ?_
      refine g_getN X uwX9 2 rfl rfl 1 (by decide) kl_X4_49 rfl rfl gwX9 dX4_readNumbers_16 ?_
      refine g_icmp_ge X 153 dX4_readNumbers_19 (by decide) (fun c19_2 => absurd c19_2 (fge (a := p) (b := x) (by omega) (by omega) (by omega))) (fun c19_2 => ?_)
      have hlp := hl p (by omega)
      refine g_aload_n X dX4_readNumbers_22 rfl ?_
      refine g_iload X dX4_readNumbers_23 rfl ?_
      refine g_callVi X (c_X9_letterAt V t tl (nIf tf) x p (by omega)) mo_X9_letterAt kl_X4_58 [2, 3] [0, 0, 1, 2] rfl (by decide +kernel) rfl rfl (fun _ => Nat.le_of_ble_eq_true rfl) 2 9 rfl rfl (As := [.int (nI p)]) (st := []) (cs' := (0, 0)) rfl rfl rfl rfl dX4_readNumbers_25 (fun r_7 u_3 hp_4 ws_6 hw_5 => ?_)
      obtain rfl : r_7 = (nIf tf) p := hp_4
      have hw_5x : ws_6 = [(h, .inr (4, [.ref hk, .ref hfw, .ref hfg, .ref hwb, .ref hld, .ref hte, .ref hpu, .int hn_, .int hwa, .int hm_, .ref hnu, .int (nI to)])), (hnu, .inl (V.2.2.1, 3, .inl (nIf nu1))), (t, .inr (9, [.ref tl, .int (nI x)])), (tl, .inl (V.2.2.1, 200, .inl (nIf tf)))] := hw_5.symm
      clear hw_5; subst hw_5x
      refine g_toe (nI (tf p)) rfl ?_
      refine g_istore X (L' := [some (.ref h), some (.ref t), some (.int (nI p0)), some (.int (nI fig)), some (.int (nI num)), some (.int (nI p)), some (.int (nI (tf p)))]) dX4_readNumbers_28 (by decide) rfl rfl ?_
      refine g_iload X dX4_readNumbers_30 rfl ?_
      refine g_bipush X (48) dX4_readNumbers_32 (by decide) ?_
      refine g_icmp_lt X 63 dX4_readNumbers_34 (by decide) (fun c34_8 => ?_) (fun c34_8 => ?_)
      · have c34_8n := ilt' (a := tf p) (b := 48) c34_8 (by omega) (by omega)
        refine g_iload X dX4_readNumbers_63 rfl ?_
        refine g_bipush X (44) dX4_readNumbers_65 (by decide) ?_
        refine g_icmp_eq X 77 dX4_readNumbers_67 (by decide) (fun c67_9 => ?_) (fun c67_9 => ?_)
        · have c67_9n := ieq' (a := tf p) (b := 44) c67_9 (by omega) (by omega)
          refine g_iload_n X dX4_readNumbers_77 rfl ?_
          refine g_iconst X (1) dX4_readNumbers_78 (by decide) ?_
          refine g_icmp_lt X 90 dX4_readNumbers_79 (by decide) (fun c79_10 => ?_) (fun c79_10 => ?_)
          · have c79_10n := ilt' (a := fig) (b := 1) c79_10 (by omega) (by omega)
            refine g_bipush X (-4) dX4_readNumbers_90 (by decide) ?_
            exact g_iret X E dX4_readNumbers_92 ⟨to, nu1⟩ (-4) ⟨(by rw [hrd, show x - p = (x - (p + 1)) + 1 by omega, rdN, if_pos (show tf p < 48 ∨ 57 < tf p by omega), if_pos (show tf p = 44 ∨ tf p = 59 by omega), if_pos (show fig < 1 ∨ 3 ≤ to by omega)]; rfl), (by rw [hrd, show x - p = (x - (p + 1)) + 1 by omega, rdN, if_pos (show tf p < 48 ∨ 57 < tf p by omega), if_pos (show tf p = 44 ∨ tf p = 59 by omega), if_pos (show fig < 1 ∨ 3 ≤ to by omega)]), (by rw [hrd, show x - p = (x - (p + 1)) + 1 by omega, rdN, if_pos (show tf p < 48 ∨ 57 < tf p by omega), if_pos (show tf p = 44 ∨ tf p = 59 by omega), if_pos (show fig < 1 ∨ 3 ≤ to by omega)])⟩ rfl
          · have c79_10n := inlt' (a := fig) (b := 1) c79_10 (by omega) (by omega)
            refine g_aload_n X dX4_readNumbers_82 rfl ?_
            refine g_get X uwX4 0 rfl rfl 11 (by decide) kl_X4_46 rfl rfl gwX4 dX4_readNumbers_83 ?_
            refine g_iconst X (3) dX4_readNumbers_86 (by decide) ?_
            refine g_icmp_lt X 93 dX4_readNumbers_87 (by decide) (fun c87_11 => ?_) (fun c87_11 => ?_)
            · have c87_11n := ilt' (a := to) (b := 3) c87_11 (by omega) (by omega)
              refine g_aload_n X dX4_readNumbers_93 rfl ?_
              refine g_get X uwX4 0 rfl rfl 10 (by decide) kl_X4_43 rfl rfl gwX4 dX4_readNumbers_94 ?_
              refine g_aload_n X dX4_readNumbers_97 rfl ?_
              refine g_get X uwX4 0 rfl rfl 11 (by decide) kl_X4_46 rfl rfl gwX4 dX4_readNumbers_98 ?_
              refine g_iload X dX4_readNumbers_101 rfl ?_
              refine g_callNv X (c_X10_put V hnu 3 (nIf nu1) to (nI num) (by omega) (by decide)) mo_X10_put kl_X4_66 [1] [0, 1, 0, 0] rfl (by decide +kernel) rfl rfl (fun _ => Nat.le_of_ble_eq_true rfl) (As := [.ref hnu, .int (nI to), .int (nI num)]) (st := []) (cs' := (0, 0)) rfl rfl rfl dX4_readNumbers_103 (fun nf_12 hp_13 ws_15 hw_14 => ?_)
              obtain rfl : nf_12 = upd (nIf nu1) to (nI num) := hp_13
              have hw_14x : ws_15 = [(h, .inr (4, [.ref hk, .ref hfw, .ref hfg, .ref hwb, .ref hld, .ref hte, .ref hpu, .int hn_, .int hwa, .int hm_, .ref hnu, .int (nI to)])), (hnu, .inl (V.2.2.1, 3, .inl (upd (nIf nu1) to (nI num)))), (t, .inr (9, [.ref tl, .int (nI x)])), (tl, .inl (V.2.2.1, 200, .inl (nIf tf)))] := hw_14.symm
              clear hw_14; subst hw_14x
              refine g_arr 1 (nIf (updN nu1 to num)) rfl (fun j _ => updN_eq nu1 to num j) (ws' := [(h, .inr (4, [.ref hk, .ref hfw, .ref hfg, .ref hwb, .ref hld, .ref hte, .ref hpu, .int hn_, .int hwa, .int hm_, .ref hnu, .int (nI to)])), (hnu, .inl (V.2.2.1, 3, .inl (nIf (updN nu1 to num)))), (t, .inr (9, [.ref tl, .int (nI x)])), (tl, .inl (V.2.2.1, 200, .inl (nIf tf)))]) rfl ?_
              refine g_aload_n X dX4_readNumbers_106 rfl ?_
              refine g_dup X dX4_readNumbers_107 rfl ?_
              refine g_get X uwX4 0 rfl rfl 11 (by decide) kl_X4_46 rfl rfl gwX4 dX4_readNumbers_108 ?_
              refine g_iconst X (1) dX4_readNumbers_111 (by decide) ?_
              refine g_iadd X dX4_readNumbers_112 ?_
              refine g_toe (x' := nI (to + 1)) (nI_add' rfl rfl) ?_
              refine g_put X uwX4 tyX4 tyX4_ok nmX4 0 rfl rfl 11 (by decide) kl_X4_46 rfl rfl rfl rfl (Nat.le_of_ble_eq_true rfl) gwX4 (ws' := [(h, .inr (4, [.ref hk, .ref hfw, .ref hfg, .ref hwb, .ref hld, .ref hte, .ref hpu, .int hn_, .int hwa, .int hm_, .ref hnu, .int (nI (to + 1))])), (hnu, .inl (V.2.2.1, 3, .inl (nIf (updN nu1 to num)))), (t, .inr (9, [.ref tl, .int (nI x)])), (tl, .inl (V.2.2.1, 200, .inl (nIf tf)))]) rfl dX4_readNumbers_113 ?_
              refine g_iconst X (0) dX4_readNumbers_116 (by decide) ?_
              refine g_istore_n X (L' := [some (.ref h), some (.ref t), some (.int (nI p0)), some (.int 0), some (.int (nI num)), some (.int (nI p)), some (.int (nI (tf p)))]) dX4_readNumbers_117 (by decide) rfl rfl ?_
              refine g_iconst X (0) dX4_readNumbers_118 (by decide) ?_
              refine g_istore X (L' := [some (.ref h), some (.ref t), some (.int (nI p0)), some (.int 0), some (.int 0), some (.int (nI p)), some (.int (nI (tf p)))]) dX4_readNumbers_119 (by decide) rfl rfl ?_
              refine g_goto X 127 dX4_readNumbers_121 (by decide) ?_
              refine g_iload_n X dX4_readNumbers_127 rfl ?_
              refine g_iconst X (3) dX4_readNumbers_128 (by decide) ?_
              refine g_icmp_le X 135 dX4_readNumbers_129 (by decide) (fun c129_17 => ?_) (fun c129_17 => absurd (by decide) c129_17)
              refine g_iload X dX4_readNumbers_135 rfl ?_
              refine g_bipush X (59) dX4_readNumbers_137 (by decide) ?_
              refine g_icmp_ne X 147 dX4_readNumbers_139 (by decide) (fun c139_18 => ?_) (fun c139_18 => ?_)
              · have c139_18n := ine' (a := tf p) (b := 59) c139_18 (by omega) (by omega)
                refine g_iinc X (v := nI (p + 1)) (L' := [some (.ref h), some (.ref t), some (.int (nI p0)), some (.int 0), some (.int 0), some (.int (nI (p + 1))), some (.int (nI (tf p)))]) dX4_readNumbers_147 rfl (nI_addk (by decide)) (by decide) rfl rfl ?_
                refine g_goto X 13 dX4_readNumbers_150 (by decide) ?_
                refine g_sub (L' := [some (.ref h), some (.ref t), some (.int (nI p0)), some (.int 0), some (.int 0), some (.int (nI (p + 1))), none]) ⟨rfl, ⟨rfl, ⟨rfl, ⟨rfl, ⟨rfl, ⟨rfl, trivial⟩⟩⟩⟩⟩⟩ ?_
                exact ih13 (p + 1) (by omega) 0 0 (to + 1) (updN nu1 to num) (by omega) (by omega) (by omega) (by omega) (by rw [hrd, show x - p = (x - (p + 1)) + 1 by omega, rdN, if_pos (show tf p < 48 ∨ 57 < tf p by omega), if_pos (show tf p = 44 ∨ tf p = 59 by omega), if_neg (show ¬ (fig < 1 ∨ 3 ≤ to) by omega), if_neg (show ¬ tf p = 59 by omega)])
              · have c139_18n := ieq' (a := tf p) (b := 59) c139_18 (by omega) (by omega)
                refine g_iload X dX4_readNumbers_142 rfl ?_
                refine g_iconst X (1) dX4_readNumbers_144 (by decide) ?_
                refine g_iadd X dX4_readNumbers_145 ?_
                refine g_toe (x' := nI (p + 1)) (nI_add' rfl rfl) ?_
                exact g_iret X E dX4_readNumbers_146 ⟨to + 1, updN nu1 to num⟩ (nI (p + 1)) ⟨(by rw [hrd, show x - p = (x - (p + 1)) + 1 by omega, rdN, if_pos (show tf p < 48 ∨ 57 < tf p by omega), if_pos (show tf p = 44 ∨ tf p = 59 by omega), if_neg (show ¬ (fig < 1 ∨ 3 ≤ to) by omega), if_pos (show tf p = 59 by omega)]; rfl), (by rw [hrd, show x - p = (x - (p + 1)) + 1 by omega, rdN, if_pos (show tf p < 48 ∨ 57 < tf p by omega), if_pos (show tf p = 44 ∨ tf p = 59 by omega), if_neg (show ¬ (fig < 1 ∨ 3 ≤ to) by omega), if_pos (show tf p = 59 by omega)]), (by rw [hrd, show x - p = (x - (p + 1)) + 1 by omega, rdN, if_pos (show tf p < 48 ∨ 57 < tf p by omega), if_pos (show tf p = 44 ∨ tf p = 59 by omega), if_neg (show ¬ (fig < 1 ∨ 3 ≤ to) by omega), if_pos (show tf p = 59 by omega)])⟩ rfl
            · have c87_11n := inlt' (a := to) (b := 3) c87_11 (by omega) (by omega)
              refine g_bipush X (-4) dX4_readNumbers_90 (by decide) ?_
              exact g_iret X E dX4_readNumbers_92 ⟨to, nu1⟩ (-4) ⟨(by rw [hrd, show x - p = (x - (p + 1)) + 1 by omega, rdN, if_pos (show tf p < 48 ∨ 57 < tf p by omega), if_pos (show tf p = 44 ∨ tf p = 59 by omega), if_pos (show fig < 1 ∨ 3 ≤ to by omega)]; rfl), (by rw [hrd, show x - p = (x - (p + 1)) + 1 by omega, rdN, if_pos (show tf p < 48 ∨ 57 < tf p by omega), if_pos (show tf p = 44 ∨ tf p = 59 by omega), if_pos (show fig < 1 ∨ 3 ≤ to by omega)]), (by rw [hrd, show x - p = (x - (p + 1)) + 1 by omega, rdN, if_pos (show tf p < 48 ∨ 57 < tf p by omega), if_pos (show tf p = 44 ∨ tf p = 59 by omega), if_pos (show fig < 1 ∨ 3 ≤ to by omega)])⟩ rfl
        · have c67_9n := ine' (a := tf p) (b := 44) c67_9 (by omega) (by omega)
          refine g_iload X dX4_readNumbers_70 rfl ?_
          refine g_bipush X (59) dX4_readNumbers_72 (by decide) ?_
          refine g_icmp_ne X 124 dX4_readNumbers_74 (by decide) (fun c74_19 => ?_) (fun c74_19 => ?_)
          · have c74_19n := ine' (a := tf p) (b := 59) c74_19 (by omega) (by omega)
            refine g_bipush X (-4) dX4_readNumbers_124 (by decide) ?_
            exact g_iret X E dX4_readNumbers_126 ⟨to, nu1⟩ (-4) ⟨(by rw [hrd, show x - p = (x - (p + 1)) + 1 by omega, rdN, if_pos (show tf p < 48 ∨ 57 < tf p by omega), if_neg (show ¬ (tf p = 44 ∨ tf p = 59) by omega)]; rfl), (by rw [hrd, show x - p = (x - (p + 1)) + 1 by omega, rdN, if_pos (show tf p < 48 ∨ 57 < tf p by omega), if_neg (show ¬ (tf p = 44 ∨ tf p = 59) by omega)]), (by rw [hrd, show x - p = (x - (p + 1)) + 1 by omega, rdN, if_pos (show tf p < 48 ∨ 57 < tf p by omega), if_neg (show ¬ (tf p = 44 ∨ tf p = 59) by omega)])⟩ rfl
          · have c74_19n := ieq' (a := tf p) (b := 59) c74_19 (by omega) (by omega)
            refine g_iload_n X dX4_readNumbers_77 rfl ?_
            refine g_iconst X (1) dX4_readNumbers_78 (by decide) ?_
            refine g_icmp_lt X 90 dX4_readNumbers_79 (by decide) (fun c79_20 => ?_) (fun c79_20 => ?_)
            · have c79_20n := ilt' (a := fig) (b := 1) c79_20 (by omega) (by omega)
              refine g_bipush X (-4) dX4_readNumbers_90 (by decide) ?_
              exact g_iret X E dX4_readNumbers_92 ⟨to, nu1⟩ (-4) ⟨(by rw [hrd, show x - p = (x - (p + 1)) + 1 by omega, rdN, if_pos (show tf p < 48 ∨ 57 < tf p by omega), if_pos (show tf p = 44 ∨ tf p = 59 by omega), if_pos (show fig < 1 ∨ 3 ≤ to by omega)]; rfl), (by rw [hrd, show x - p = (x - (p + 1)) + 1 by omega, rdN, if_pos (show tf p < 48 ∨ 57 < tf p by omega), if_pos (show tf p = 44 ∨ tf p = 59 by omega), if_pos (show fig < 1 ∨ 3 ≤ to by omega)]), (by rw [hrd, show x - p = (x - (p + 1)) + 1 by omega, rdN, if_pos (show tf p < 48 ∨ 57 < tf p by omega), if_pos (show tf p = 44 ∨ tf p = 59 by omega), if_pos (show fig < 1 ∨ 3 ≤ to by omega)])⟩ rfl
            · have c79_20n := inlt' (a := fig) (b := 1) c79_20 (by omega) (by omega)
              refine g_aload_n X dX4_readNumbers_82 rfl ?_
              refine g_get X uwX4 0 rfl rfl 11 (by decide) kl_X4_46 rfl rfl gwX4 dX4_readNumbers_83 ?_
              refine g_iconst X (3) dX4_readNumbers_86 (by decide) ?_
              refine g_icmp_lt X 93 dX4_readNumbers_87 (by decide) (fun c87_21 => ?_) (fun c87_21 => ?_)
              · have c87_21n := ilt' (a := to) (b := 3) c87_21 (by omega) (by omega)
                refine g_aload_n X dX4_readNumbers_93 rfl ?_
                refine g_get X uwX4 0 rfl rfl 10 (by decide) kl_X4_43 rfl rfl gwX4 dX4_readNumbers_94 ?_
                refine g_aload_n X dX4_readNumbers_97 rfl ?_
                refine g_get X uwX4 0 rfl rfl 11 (by decide) kl_X4_46 rfl rfl gwX4 dX4_readNumbers_98 ?_
                refine g_iload X dX4_readNumbers_101 rfl ?_
                refine g_callNv X (c_X10_put V hnu 3 (nIf nu1) to (nI num) (by omega) (by decide)) mo_X10_put kl_X4_66 [1] [0, 1, 0, 0] rfl (by decide +kernel) rfl rfl (fun _ => Nat.le_of_ble_eq_true rfl) (As := [.ref hnu, .int (nI to), .int (nI num)]) (st := []) (cs' := (0, 0)) rfl rfl rfl dX4_readNumbers_103 (fun nf_22 hp_23 ws_25 hw_24 => ?_)
                obtain rfl : nf_22 = upd (nIf nu1) to (nI num) := hp_23
                have hw_24x : ws_25 = [(h, .inr (4, [.ref hk, .ref hfw, .ref hfg, .ref hwb, .ref hld, .ref hte, .ref hpu, .int hn_, .int hwa, .int hm_, .ref hnu, .int (nI to)])), (hnu, .inl (V.2.2.1, 3, .inl (upd (nIf nu1) to (nI num)))), (t, .inr (9, [.ref tl, .int (nI x)])), (tl, .inl (V.2.2.1, 200, .inl (nIf tf)))] := hw_24.symm
                clear hw_24; subst hw_24x
                refine g_arr 1 (nIf (updN nu1 to num)) rfl (fun j _ => updN_eq nu1 to num j) (ws' := [(h, .inr (4, [.ref hk, .ref hfw, .ref hfg, .ref hwb, .ref hld, .ref hte, .ref hpu, .int hn_, .int hwa, .int hm_, .ref hnu, .int (nI to)])), (hnu, .inl (V.2.2.1, 3, .inl (nIf (updN nu1 to num)))), (t, .inr (9, [.ref tl, .int (nI x)])), (tl, .inl (V.2.2.1, 200, .inl (nIf tf)))]) rfl ?_
                refine g_aload_n X dX4_readNumbers_106 rfl ?_
                refine g_dup X dX4_readNumbers_107 rfl ?_
                refine g_get X uwX4 0 rfl rfl 11 (by decide) kl_X4_46 rfl rfl gwX4 dX4_readNumbers_108 ?_
                refine g_iconst X (1) dX4_readNumbers_111 (by decide) ?_
                refine g_iadd X dX4_readNumbers_112 ?_
                refine g_toe (x' := nI (to + 1)) (nI_add' rfl rfl) ?_
                refine g_put X uwX4 tyX4 tyX4_ok nmX4 0 rfl rfl 11 (by decide) kl_X4_46 rfl rfl rfl rfl (Nat.le_of_ble_eq_true rfl) gwX4 (ws' := [(h, .inr (4, [.ref hk, .ref hfw, .ref hfg, .ref hwb, .ref hld, .ref hte, .ref hpu, .int hn_, .int hwa, .int hm_, .ref hnu, .int (nI (to + 1))])), (hnu, .inl (V.2.2.1, 3, .inl (nIf (updN nu1 to num)))), (t, .inr (9, [.ref tl, .int (nI x)])), (tl, .inl (V.2.2.1, 200, .inl (nIf tf)))]) rfl dX4_readNumbers_113 ?_
                refine g_iconst X (0) dX4_readNumbers_116 (by decide) ?_
                refine g_istore_n X (L' := [some (.ref h), some (.ref t), some (.int (nI p0)), some (.int 0), some (.int (nI num)), some (.int (nI p)), some (.int (nI (tf p)))]) dX4_readNumbers_117 (by decide) rfl rfl ?_
                refine g_iconst X (0) dX4_readNumbers_118 (by decide) ?_
                refine g_istore X (L' := [some (.ref h), some (.ref t), some (.int (nI p0)), some (.int 0), some (.int 0), some (.int (nI p)), some (.int (nI (tf p)))]) dX4_readNumbers_119 (by decide) rfl rfl ?_
                refine g_goto X 127 dX4_readNumbers_121 (by decide) ?_
                refine g_iload_n X dX4_readNumbers_127 rfl ?_
                refine g_iconst X (3) dX4_readNumbers_128 (by decide) ?_
                refine g_icmp_le X 135 dX4_readNumbers_129 (by decide) (fun c129_27 => ?_) (fun c129_27 => absurd (by decide) c129_27)
                refine g_iload X dX4_readNumbers_135 rfl ?_
                refine g_bipush X (59) dX4_readNumbers_137 (by decide) ?_
                refine g_icmp_ne X 147 dX4_readNumbers_139 (by decide) (fun c139_28 => ?_) (fun c139_28 => ?_)
                · have c139_28n := ine' (a := tf p) (b := 59) c139_28 (by omega) (by omega)
                  refine g_iinc X (v := nI (p + 1)) (L' := [some (.ref h), some (.ref t), some (.int (nI p0)), some (.int 0), some (.int 0), some (.int (nI (p + 1))), some (.int (nI (tf p)))]) dX4_readNumbers_147 rfl (nI_addk (by decide)) (by decide) rfl rfl ?_
                  refine g_goto X 13 dX4_readNumbers_150 (by decide) ?_
                  refine g_sub (L' := [some (.ref h), some (.ref t), some (.int (nI p0)), some (.int 0), some (.int 0), some (.int (nI (p + 1))), none]) ⟨rfl, ⟨rfl, ⟨rfl, ⟨rfl, ⟨rfl, ⟨rfl, trivial⟩⟩⟩⟩⟩⟩ ?_
                  exact ih13 (p + 1) (by omega) 0 0 (to + 1) (updN nu1 to num) (by omega) (by omega) (by omega) (by omega) (by rw [hrd, show x - p = (x - (p + 1)) + 1 by omega, rdN, if_pos (show tf p < 48 ∨ 57 < tf p by omega), if_pos (show tf p = 44 ∨ tf p = 59 by omega), if_neg (show ¬ (fig < 1 ∨ 3 ≤ to) by omega), if_neg (show ¬ tf p = 59 by omega)])
                · have c139_28n := ieq' (a := tf p) (b := 59) c139_28 (by omega) (by omega)
                  refine g_iload X dX4_readNumbers_142 rfl ?_
                  refine g_iconst X (1) dX4_readNumbers_144 (by decide) ?_
                  refine g_iadd X dX4_readNumbers_145 ?_
                  refine g_toe (x' := nI (p + 1)) (nI_add' rfl rfl) ?_
                  exact g_iret X E dX4_readNumbers_146 ⟨to + 1, updN nu1 to num⟩ (nI (p + 1)) ⟨(by rw [hrd, show x - p = (x - (p + 1)) + 1 by omega, rdN, if_pos (show tf p < 48 ∨ 57 < tf p by omega), if_pos (show tf p = 44 ∨ tf p = 59 by omega), if_neg (show ¬ (fig < 1 ∨ 3 ≤ to) by omega), if_pos (show tf p = 59 by omega)]; rfl), (by rw [hrd, show x - p = (x - (p + 1)) + 1 by omega, rdN, if_pos (show tf p < 48 ∨ 57 < tf p by omega), if_pos (show tf p = 44 ∨ tf p = 59 by omega), if_neg (show ¬ (fig < 1 ∨ 3 ≤ to) by omega), if_pos (show tf p = 59 by omega)]), (by rw [hrd, show x - p = (x - (p + 1)) + 1 by omega, rdN, if_pos (show tf p < 48 ∨ 57 < tf p by omega), if_pos (show tf p = 44 ∨ tf p = 59 by omega), if_neg (show ¬ (fig < 1 ∨ 3 ≤ to) by omega), if_pos (show tf p = 59 by omega)])⟩ rfl
              · have c87_21n := inlt' (a := to) (b := 3) c87_21 (by omega) (by omega)
                refine g_bipush X (-4) dX4_readNumbers_90 (by decide) ?_
                exact g_iret X E dX4_readNumbers_92 ⟨to, nu1⟩ (-4) ⟨(by rw [hrd, show x - p = (x - (p + 1)) + 1 by omega, rdN, if_pos (show tf p < 48 ∨ 57 < tf p by omega), if_pos (show tf p = 44 ∨ tf p = 59 by omega), if_pos (show fig < 1 ∨ 3 ≤ to by omega)]; rfl), (by rw [hrd, show x - p = (x - (p + 1)) + 1 by omega, rdN, if_pos (show tf p < 48 ∨ 57 < tf p by omega), if_pos (show tf p = 44 ∨ tf p = 59 by omega), if_pos (show fig < 1 ∨ 3 ≤ to by omega)]), (by rw [hrd, show x - p = (x - (p + 1)) + 1 by omega, rdN, if_pos (show tf p < 48 ∨ 57 < tf p by omega), if_pos (show tf p = 44 ∨ tf p = 59 by omega), if_pos (show fig < 1 ∨ 3 ≤ to by omega)])⟩ rfl
      · have c34_8n := inlt' (a := tf p) (b := 48) c34_8 (by omega) (by omega)
        refine g_iload X dX4_readNumbers_37 rfl ?_
        refine g_bipush X (57) dX4_readNumbers_39 (by decide) ?_
        refine g_icmp_gt X 63 dX4_readNumbers_41 (by decide) (fun c41_29 => ?_) (fun c41_29 => ?_)
        · have c41_29n := igt' (a := tf p) (b := 57) c41_29 (by omega) (by omega)
          refine g_iload X dX4_readNumbers_63 rfl ?_
          refine g_bipush X (44) dX4_readNumbers_65 (by decide) ?_
          refine g_icmp_eq X 77 dX4_readNumbers_67 (by decide) (fun c67_30 => ?_) (fun c67_30 => ?_)
          · have c67_30n := ieq' (a := tf p) (b := 44) c67_30 (by omega) (by omega)
            refine g_iload_n X dX4_readNumbers_77 rfl ?_
            refine g_iconst X (1) dX4_readNumbers_78 (by decide) ?_
            refine g_icmp_lt X 90 dX4_readNumbers_79 (by decide) (fun c79_31 => ?_) (fun c79_31 => ?_)
            · have c79_31n := ilt' (a := fig) (b := 1) c79_31 (by omega) (by omega)
              refine g_bipush X (-4) dX4_readNumbers_90 (by decide) ?_
              exact g_iret X E dX4_readNumbers_92 ⟨to, nu1⟩ (-4) ⟨(by rw [hrd, show x - p = (x - (p + 1)) + 1 by omega, rdN, if_pos (show tf p < 48 ∨ 57 < tf p by omega), if_pos (show tf p = 44 ∨ tf p = 59 by omega), if_pos (show fig < 1 ∨ 3 ≤ to by omega)]; rfl), (by rw [hrd, show x - p = (x - (p + 1)) + 1 by omega, rdN, if_pos (show tf p < 48 ∨ 57 < tf p by omega), if_pos (show tf p = 44 ∨ tf p = 59 by omega), if_pos (show fig < 1 ∨ 3 ≤ to by omega)]), (by rw [hrd, show x - p = (x - (p + 1)) + 1 by omega, rdN, if_pos (show tf p < 48 ∨ 57 < tf p by omega), if_pos (show tf p = 44 ∨ tf p = 59 by omega), if_pos (show fig < 1 ∨ 3 ≤ to by omega)])⟩ rfl
            · have c79_31n := inlt' (a := fig) (b := 1) c79_31 (by omega) (by omega)
              refine g_aload_n X dX4_readNumbers_82 rfl ?_
              refine g_get X uwX4 0 rfl rfl 11 (by decide) kl_X4_46 rfl rfl gwX4 dX4_readNumbers_83 ?_
              refine g_iconst X (3) dX4_readNumbers_86 (by decide) ?_
              refine g_icmp_lt X 93 dX4_readNumbers_87 (by decide) (fun c87_32 => ?_) (fun c87_32 => ?_)
              · have c87_32n := ilt' (a := to) (b := 3) c87_32 (by omega) (by omega)
                refine g_aload_n X dX4_readNumbers_93 rfl ?_
                refine g_get X uwX4 0 rfl rfl 10 (by decide) kl_X4_43 rfl rfl gwX4 dX4_readNumbers_94 ?_
                refine g_aload_n X dX4_readNumbers_97 rfl ?_
                refine g_get X uwX4 0 rfl rfl 11 (by decide) kl_X4_46 rfl rfl gwX4 dX4_readNumbers_98 ?_
                refine g_iload X dX4_readNumbers_101 rfl ?_
                refine g_callNv X (c_X10_put V hnu 3 (nIf nu1) to (nI num) (by omega) (by decide)) mo_X10_put kl_X4_66 [1] [0, 1, 0, 0] rfl (by decide +kernel) rfl rfl (fun _ => Nat.le_of_ble_eq_true rfl) (As := [.ref hnu, .int (nI to), .int (nI num)]) (st := []) (cs' := (0, 0)) rfl rfl rfl dX4_readNumbers_103 (fun nf_33 hp_34 ws_36 hw_35 => ?_)
                obtain rfl : nf_33 = upd (nIf nu1) to (nI num) := hp_34
                have hw_35x : ws_36 = [(h, .inr (4, [.ref hk, .ref hfw, .ref hfg, .ref hwb, .ref hld, .ref hte, .ref hpu, .int hn_, .int hwa, .int hm_, .ref hnu, .int (nI to)])), (hnu, .inl (V.2.2.1, 3, .inl (upd (nIf nu1) to (nI num)))), (t, .inr (9, [.ref tl, .int (nI x)])), (tl, .inl (V.2.2.1, 200, .inl (nIf tf)))] := hw_35.symm
                clear hw_35; subst hw_35x
                refine g_arr 1 (nIf (updN nu1 to num)) rfl (fun j _ => updN_eq nu1 to num j) (ws' := [(h, .inr (4, [.ref hk, .ref hfw, .ref hfg, .ref hwb, .ref hld, .ref hte, .ref hpu, .int hn_, .int hwa, .int hm_, .ref hnu, .int (nI to)])), (hnu, .inl (V.2.2.1, 3, .inl (nIf (updN nu1 to num)))), (t, .inr (9, [.ref tl, .int (nI x)])), (tl, .inl (V.2.2.1, 200, .inl (nIf tf)))]) rfl ?_
                refine g_aload_n X dX4_readNumbers_106 rfl ?_
                refine g_dup X dX4_readNumbers_107 rfl ?_
                refine g_get X uwX4 0 rfl rfl 11 (by decide) kl_X4_46 rfl rfl gwX4 dX4_readNumbers_108 ?_
                refine g_iconst X (1) dX4_readNumbers_111 (by decide) ?_
                refine g_iadd X dX4_readNumbers_112 ?_
                refine g_toe (x' := nI (to + 1)) (nI_add' rfl rfl) ?_
                refine g_put X uwX4 tyX4 tyX4_ok nmX4 0 rfl rfl 11 (by decide) kl_X4_46 rfl rfl rfl rfl (Nat.le_of_ble_eq_true rfl) gwX4 (ws' := [(h, .inr (4, [.ref hk, .ref hfw, .ref hfg, .ref hwb, .ref hld, .ref hte, .ref hpu, .int hn_, .int hwa, .int hm_, .ref hnu, .int (nI (to + 1))])), (hnu, .inl (V.2.2.1, 3, .inl (nIf (updN nu1 to num)))), (t, .inr (9, [.ref tl, .int (nI x)])), (tl, .inl (V.2.2.1, 200, .inl (nIf tf)))]) rfl dX4_readNumbers_113 ?_
                refine g_iconst X (0) dX4_readNumbers_116 (by decide) ?_
                refine g_istore_n X (L' := [some (.ref h), some (.ref t), some (.int (nI p0)), some (.int 0), some (.int (nI num)), some (.int (nI p)), some (.int (nI (tf p)))]) dX4_readNumbers_117 (by decide) rfl rfl ?_
                refine g_iconst X (0) dX4_readNumbers_118 (by decide) ?_
                refine g_istore X (L' := [some (.ref h), some (.ref t), some (.int (nI p0)), some (.int 0), some (.int 0), some (.int (nI p)), some (.int (nI (tf p)))]) dX4_readNumbers_119 (by decide) rfl rfl ?_
                refine g_goto X 127 dX4_readNumbers_121 (by decide) ?_
                refine g_iload_n X dX4_readNumbers_127 rfl ?_
                refine g_iconst X (3) dX4_readNumbers_128 (by decide) ?_
                refine g_icmp_le X 135 dX4_readNumbers_129 (by decide) (fun c129_38 => ?_) (fun c129_38 => absurd (by decide) c129_38)
                refine g_iload X dX4_readNumbers_135 rfl ?_
                refine g_bipush X (59) dX4_readNumbers_137 (by decide) ?_
                refine g_icmp_ne X 147 dX4_readNumbers_139 (by decide) (fun c139_39 => ?_) (fun c139_39 => ?_)
                · have c139_39n := ine' (a := tf p) (b := 59) c139_39 (by omega) (by omega)
                  refine g_iinc X (v := nI (p + 1)) (L' := [some (.ref h), some (.ref t), some (.int (nI p0)), some (.int 0), some (.int 0), some (.int (nI (p + 1))), some (.int (nI (tf p)))]) dX4_readNumbers_147 rfl (nI_addk (by decide)) (by decide) rfl rfl ?_
                  refine g_goto X 13 dX4_readNumbers_150 (by decide) ?_
                  refine g_sub (L' := [some (.ref h), some (.ref t), some (.int (nI p0)), some (.int 0), some (.int 0), some (.int (nI (p + 1))), none]) ⟨rfl, ⟨rfl, ⟨rfl, ⟨rfl, ⟨rfl, ⟨rfl, trivial⟩⟩⟩⟩⟩⟩ ?_
                  exact ih13 (p + 1) (by omega) 0 0 (to + 1) (updN nu1 to num) (by omega) (by omega) (by omega) (by omega) (by rw [hrd, show x - p = (x - (p + 1)) + 1 by omega, rdN, if_pos (show tf p < 48 ∨ 57 < tf p by omega), if_pos (show tf p = 44 ∨ tf p = 59 by omega), if_neg (show ¬ (fig < 1 ∨ 3 ≤ to) by omega), if_neg (show ¬ tf p = 59 by omega)])
                · have c139_39n := ieq' (a := tf p) (b := 59) c139_39 (by omega) (by omega)
                  refine g_iload X dX4_readNumbers_142 rfl ?_
                  refine g_iconst X (1) dX4_readNumbers_144 (by decide) ?_
                  refine g_iadd X dX4_readNumbers_145 ?_
                  refine g_toe (x' := nI (p + 1)) (nI_add' rfl rfl) ?_
                  exact g_iret X E dX4_readNumbers_146 ⟨to + 1, updN nu1 to num⟩ (nI (p + 1)) ⟨(by rw [hrd, show x - p = (x - (p + 1)) + 1 by omega, rdN, if_pos (show tf p < 48 ∨ 57 < tf p by omega), if_pos (show tf p = 44 ∨ tf p = 59 by omega), if_neg (show ¬ (fig < 1 ∨ 3 ≤ to) by omega), if_pos (show tf p = 59 by omega)]; rfl), (by rw [hrd, show x - p = (x - (p + 1)) + 1 by omega, rdN, if_pos (show tf p < 48 ∨ 57 < tf p by omega), if_pos (show tf p = 44 ∨ tf p = 59 by omega), if_neg (show ¬ (fig < 1 ∨ 3 ≤ to) by omega), if_pos (show tf p = 59 by omega)]), (by rw [hrd, show x - p = (x - (p + 1)) + 1 by omega, rdN, if_pos (show tf p < 48 ∨ 57 < tf p by omega), if_pos (show tf p = 44 ∨ tf p = 59 by omega), if_neg (show ¬ (fig < 1 ∨ 3 ≤ to) by omega), if_pos (show tf p = 59 by omega)])⟩ rfl
              · have c87_32n := inlt' (a := to) (b := 3) c87_32 (by omega) (by omega)
                refine g_bipush X (-4) dX4_readNumbers_90 (by decide) ?_
                exact g_iret X E dX4_readNumbers_92 ⟨to, nu1⟩ (-4) ⟨(by rw [hrd, show x - p = (x - (p + 1)) + 1 by omega, rdN, if_pos (show tf p < 48 ∨ 57 < tf p by omega), if_pos (show tf p = 44 ∨ tf p = 59 by omega), if_pos (show fig < 1 ∨ 3 ≤ to by omega)]; rfl), (by rw [hrd, show x - p = (x - (p + 1)) + 1 by omega, rdN, if_pos (show tf p < 48 ∨ 57 < tf p by omega), if_pos (show tf p = 44 ∨ tf p = 59 by omega), if_pos (show fig < 1 ∨ 3 ≤ to by omega)]), (by rw [hrd, show x - p = (x - (p + 1)) + 1 by omega, rdN, if_pos (show tf p < 48 ∨ 57 < tf p by omega), if_pos (show tf p = 44 ∨ tf p = 59 by omega), if_pos (show fig < 1 ∨ 3 ≤ to by omega)])⟩ rfl
          · have c67_30n := ine' (a := tf p) (b := 44) c67_30 (by omega) (by omega)
            refine g_iload X dX4_readNumbers_70 rfl ?_
            refine g_bipush X (59) dX4_readNumbers_72 (by decide) ?_
            refine g_icmp_ne X 124 dX4_readNumbers_74 (by decide) (fun c74_40 => ?_) (fun c74_40 => ?_)
            · have c74_40n := ine' (a := tf p) (b := 59) c74_40 (by omega) (by omega)
              refine g_bipush X (-4) dX4_readNumbers_124 (by decide) ?_
              exact g_iret X E dX4_readNumbers_126 ⟨to, nu1⟩ (-4) ⟨(by rw [hrd, show x - p = (x - (p + 1)) + 1 by omega, rdN, if_pos (show tf p < 48 ∨ 57 < tf p by omega), if_neg (show ¬ (tf p = 44 ∨ tf p = 59) by omega)]; rfl), (by rw [hrd, show x - p = (x - (p + 1)) + 1 by omega, rdN, if_pos (show tf p < 48 ∨ 57 < tf p by omega), if_neg (show ¬ (tf p = 44 ∨ tf p = 59) by omega)]), (by rw [hrd, show x - p = (x - (p + 1)) + 1 by omega, rdN, if_pos (show tf p < 48 ∨ 57 < tf p by omega), if_neg (show ¬ (tf p = 44 ∨ tf p = 59) by omega)])⟩ rfl
            · have c74_40n := ieq' (a := tf p) (b := 59) c74_40 (by omega) (by omega)
              refine g_iload_n X dX4_readNumbers_77 rfl ?_
              refine g_iconst X (1) dX4_readNumbers_78 (by decide) ?_
              refine g_icmp_lt X 90 dX4_readNumbers_79 (by decide) (fun c79_41 => ?_) (fun c79_41 => ?_)
              · have c79_41n := ilt' (a := fig) (b := 1) c79_41 (by omega) (by omega)
                refine g_bipush X (-4) dX4_readNumbers_90 (by decide) ?_
                exact g_iret X E dX4_readNumbers_92 ⟨to, nu1⟩ (-4) ⟨(by rw [hrd, show x - p = (x - (p + 1)) + 1 by omega, rdN, if_pos (show tf p < 48 ∨ 57 < tf p by omega), if_pos (show tf p = 44 ∨ tf p = 59 by omega), if_pos (show fig < 1 ∨ 3 ≤ to by omega)]; rfl), (by rw [hrd, show x - p = (x - (p + 1)) + 1 by omega, rdN, if_pos (show tf p < 48 ∨ 57 < tf p by omega), if_pos (show tf p = 44 ∨ tf p = 59 by omega), if_pos (show fig < 1 ∨ 3 ≤ to by omega)]), (by rw [hrd, show x - p = (x - (p + 1)) + 1 by omega, rdN, if_pos (show tf p < 48 ∨ 57 < tf p by omega), if_pos (show tf p = 44 ∨ tf p = 59 by omega), if_pos (show fig < 1 ∨ 3 ≤ to by omega)])⟩ rfl
              · have c79_41n := inlt' (a := fig) (b := 1) c79_41 (by omega) (by omega)
                refine g_aload_n X dX4_readNumbers_82 rfl ?_
                refine g_get X uwX4 0 rfl rfl 11 (by decide) kl_X4_46 rfl rfl gwX4 dX4_readNumbers_83 ?_
                refine g_iconst X (3) dX4_readNumbers_86 (by decide) ?_
                refine g_icmp_lt X 93 dX4_readNumbers_87 (by decide) (fun c87_42 => ?_) (fun c87_42 => ?_)
                · have c87_42n := ilt' (a := to) (b := 3) c87_42 (by omega) (by omega)
                  refine g_aload_n X dX4_readNumbers_93 rfl ?_
                  refine g_get X uwX4 0 rfl rfl 10 (by decide) kl_X4_43 rfl rfl gwX4 dX4_readNumbers_94 ?_
                  refine g_aload_n X dX4_readNumbers_97 rfl ?_
                  refine g_get X uwX4 0 rfl rfl 11 (by decide) kl_X4_46 rfl rfl gwX4 dX4_readNumbers_98 ?_
                  refine g_iload X dX4_readNumbers_101 rfl ?_
                  refine g_callNv X (c_X10_put V hnu 3 (nIf nu1) to (nI num) (by omega) (by decide)) mo_X10_put kl_X4_66 [1] [0, 1, 0, 0] rfl (by decide +kernel) rfl rfl (fun _ => Nat.le_of_ble_eq_true rfl) (As := [.ref hnu, .int (nI to), .int (nI num)]) (st := []) (cs' := (0, 0)) rfl rfl rfl dX4_readNumbers_103 (fun nf_43 hp_44 ws_46 hw_45 => ?_)
                  obtain rfl : nf_43 = upd (nIf nu1) to (nI num) := hp_44
                  have hw_45x : ws_46 = [(h, .inr (4, [.ref hk, .ref hfw, .ref hfg, .ref hwb, .ref hld, .ref hte, .ref hpu, .int hn_, .int hwa, .int hm_, .ref hnu, .int (nI to)])), (hnu, .inl (V.2.2.1, 3, .inl (upd (nIf nu1) to (nI num)))), (t, .inr (9, [.ref tl, .int (nI x)])), (tl, .inl (V.2.2.1, 200, .inl (nIf tf)))] := hw_45.symm
                  clear hw_45; subst hw_45x
                  refine g_arr 1 (nIf (updN nu1 to num)) rfl (fun j _ => updN_eq nu1 to num j) (ws' := [(h, .inr (4, [.ref hk, .ref hfw, .ref hfg, .ref hwb, .ref hld, .ref hte, .ref hpu, .int hn_, .int hwa, .int hm_, .ref hnu, .int (nI to)])), (hnu, .inl (V.2.2.1, 3, .inl (nIf (updN nu1 to num)))), (t, .inr (9, [.ref tl, .int (nI x)])), (tl, .inl (V.2.2.1, 200, .inl (nIf tf)))]) rfl ?_
                  refine g_aload_n X dX4_readNumbers_106 rfl ?_
                  refine g_dup X dX4_readNumbers_107 rfl ?_
                  refine g_get X uwX4 0 rfl rfl 11 (by decide) kl_X4_46 rfl rfl gwX4 dX4_readNumbers_108 ?_
                  refine g_iconst X (1) dX4_readNumbers_111 (by decide) ?_
                  refine g_iadd X dX4_readNumbers_112 ?_
                  refine g_toe (x' := nI (to + 1)) (nI_add' rfl rfl) ?_
                  refine g_put X uwX4 tyX4 tyX4_ok nmX4 0 rfl rfl 11 (by decide) kl_X4_46 rfl rfl rfl rfl (Nat.le_of_ble_eq_true rfl) gwX4 (ws' := [(h, .inr (4, [.ref hk, .ref hfw, .ref hfg, .ref hwb, .ref hld, .ref hte, .ref hpu, .int hn_, .int hwa, .int hm_, .ref hnu, .int (nI (to + 1))])), (hnu, .inl (V.2.2.1, 3, .inl (nIf (updN nu1 to num)))), (t, .inr (9, [.ref tl, .int (nI x)])), (tl, .inl (V.2.2.1, 200, .inl (nIf tf)))]) rfl dX4_readNumbers_113 ?_
                  refine g_iconst X (0) dX4_readNumbers_116 (by decide) ?_
                  refine g_istore_n X (L' := [some (.ref h), some (.ref t), some (.int (nI p0)), some (.int 0), some (.int (nI num)), some (.int (nI p)), some (.int (nI (tf p)))]) dX4_readNumbers_117 (by decide) rfl rfl ?_
                  refine g_iconst X (0) dX4_readNumbers_118 (by decide) ?_
                  refine g_istore X (L' := [some (.ref h), some (.ref t), some (.int (nI p0)), some (.int 0), some (.int 0), some (.int (nI p)), some (.int (nI (tf p)))]) dX4_readNumbers_119 (by decide) rfl rfl ?_
                  refine g_goto X 127 dX4_readNumbers_121 (by decide) ?_
                  refine g_iload_n X dX4_readNumbers_127 rfl ?_
                  refine g_iconst X (3) dX4_readNumbers_128 (by decide) ?_
                  refine g_icmp_le X 135 dX4_readNumbers_129 (by decide) (fun c129_48 => ?_) (fun c129_48 => absurd (by decide) c129_48)
                  refine g_iload X dX4_readNumbers_135 rfl ?_
                  refine g_bipush X (59) dX4_readNumbers_137 (by decide) ?_
                  refine g_icmp_ne X 147 dX4_readNumbers_139 (by decide) (fun c139_49 => ?_) (fun c139_49 => ?_)
                  · have c139_49n := ine' (a := tf p) (b := 59) c139_49 (by omega) (by omega)
                    refine g_iinc X (v := nI (p + 1)) (L' := [some (.ref h), some (.ref t), some (.int (nI p0)), some (.int 0), some (.int 0), some (.int (nI (p + 1))), some (.int (nI (tf p)))]) dX4_readNumbers_147 rfl (nI_addk (by decide)) (by decide) rfl rfl ?_
                    refine g_goto X 13 dX4_readNumbers_150 (by decide) ?_
                    refine g_sub (L' := [some (.ref h), some (.ref t), some (.int (nI p0)), some (.int 0), some (.int 0), some (.int (nI (p + 1))), none]) ⟨rfl, ⟨rfl, ⟨rfl, ⟨rfl, ⟨rfl, ⟨rfl, trivial⟩⟩⟩⟩⟩⟩ ?_
                    exact ih13 (p + 1) (by omega) 0 0 (to + 1) (updN nu1 to num) (by omega) (by omega) (by omega) (by omega) (by rw [hrd, show x - p = (x - (p + 1)) + 1 by omega, rdN, if_pos (show tf p < 48 ∨ 57 < tf p by omega), if_pos (show tf p = 44 ∨ tf p = 59 by omega), if_neg (show ¬ (fig < 1 ∨ 3 ≤ to) by omega), if_neg (show ¬ tf p = 59 by omega)])
                  · have c139_49n := ieq' (a := tf p) (b := 59) c139_49 (by omega) (by omega)
                    refine g_iload X dX4_readNumbers_142 rfl ?_
                    refine g_iconst X (1) dX4_readNumbers_144 (by decide) ?_
                    refine g_iadd X dX4_readNumbers_145 ?_
                    refine g_toe (x' := nI (p + 1)) (nI_add' rfl rfl) ?_
                    exact g_iret X E dX4_readNumbers_146 ⟨to + 1, updN nu1 to num⟩ (nI (p + 1)) ⟨(by rw [hrd, show x - p = (x - (p + 1)) + 1 by omega, rdN, if_pos (show tf p < 48 ∨ 57 < tf p by omega), if_pos (show tf p = 44 ∨ tf p = 59 by omega), if_neg (show ¬ (fig < 1 ∨ 3 ≤ to) by omega), if_pos (show tf p = 59 by omega)]; rfl), (by rw [hrd, show x - p = (x - (p + 1)) + 1 by omega, rdN, if_pos (show tf p < 48 ∨ 57 < tf p by omega), if_pos (show tf p = 44 ∨ tf p = 59 by omega), if_neg (show ¬ (fig < 1 ∨ 3 ≤ to) by omega), if_pos (show tf p = 59 by omega)]), (by rw [hrd, show x - p = (x - (p + 1)) + 1 by omega, rdN, if_pos (show tf p < 48 ∨ 57 < tf p by omega), if_pos (show tf p = 44 ∨ tf p = 59 by omega), if_neg (show ¬ (fig < 1 ∨ 3 ≤ to) by omega), if_pos (show tf p = 59 by omega)])⟩ rfl
                · have c87_42n := inlt' (a := to) (b := 3) c87_42 (by omega) (by omega)
                  refine g_bipush X (-4) dX4_readNumbers_90 (by decide) ?_
                  exact g_iret X E dX4_readNumbers_92 ⟨to, nu1⟩ (-4) ⟨(by rw [hrd, show x - p = (x - (p + 1)) + 1 by omega, rdN, if_pos (show tf p < 48 ∨ 57 < tf p by omega), if_pos (show tf p = 44 ∨ tf p = 59 by omega), if_pos (show fig < 1 ∨ 3 ≤ to by omega)]; rfl), (by rw [hrd, show x - p = (x - (p + 1)) + 1 by omega, rdN, if_pos (show tf p < 48 ∨ 57 < tf p by omega), if_pos (show tf p = 44 ∨ tf p = 59 by omega), if_pos (show fig < 1 ∨ 3 ≤ to by omega)]), (by rw [hrd, show x - p = (x - (p + 1)) + 1 by omega, rdN, if_pos (show tf p < 48 ∨ 57 < tf p by omega), if_pos (show tf p = 44 ∨ tf p = 59 by omega), if_pos (show fig < 1 ∨ 3 ≤ to by omega)])⟩ rfl
        · have c41_29n := ingt' (a := tf p) (b := 57) c41_29 (by omega) (by omega)
          refine g_bipush X (10) dX4_readNumbers_44 (by decide) ?_
          refine g_iload X dX4_readNumbers_46 rfl ?_
          refine g_imul X dX4_readNumbers_48 ?_
          refine g_toe (x' := nI (10 * num)) (nI_mul' rfl rfl) ?_
          refine g_iload X dX4_readNumbers_49 rfl ?_
          refine g_iadd X dX4_readNumbers_51 ?_
          refine g_toe (x' := nI (10 * num + (tf p))) (nI_add' rfl rfl) ?_
          refine g_bipush X (48) dX4_readNumbers_52 (by decide) ?_
          refine g_isub X dX4_readNumbers_54 ?_
          refine g_toe (x' := nI (10 * num + (tf p) - 48)) (nI_sub' rfl rfl (by omega)) ?_
          refine g_istore X (L' := [some (.ref h), some (.ref t), some (.int (nI p0)), some (.int (nI fig)), some (.int (nI (10 * num + (tf p) - 48))), some (.int (nI p)), some (.int (nI (tf p)))]) dX4_readNumbers_55 (by decide) rfl rfl ?_
          refine g_iinc X (v := nI (fig + 1)) (L' := [some (.ref h), some (.ref t), some (.int (nI p0)), some (.int (nI (fig + 1))), some (.int (nI (10 * num + (tf p) - 48))), some (.int (nI p)), some (.int (nI (tf p)))]) dX4_readNumbers_57 rfl (nI_addk (by decide)) (by decide) rfl rfl ?_
          refine g_goto X 127 dX4_readNumbers_60 (by decide) ?_
          refine g_iload_n X dX4_readNumbers_127 rfl ?_
          refine g_iconst X (3) dX4_readNumbers_128 (by decide) ?_
          refine g_icmp_le X 135 dX4_readNumbers_129 (by decide) (fun c129_50 => ?_) (fun c129_50 => ?_)
          · have c129_50n := ile' (a := fig + 1) (b := 3) c129_50 (by omega) (by omega)
            refine g_iload X dX4_readNumbers_135 rfl ?_
            refine g_bipush X (59) dX4_readNumbers_137 (by decide) ?_
            refine g_icmp_ne X 147 dX4_readNumbers_139 (by decide) (fun c139_51 => ?_) (fun c139_51 => ?_)
            · have c139_51n := ine' (a := tf p) (b := 59) c139_51 (by omega) (by omega)
              refine g_iinc X (v := nI (p + 1)) (L' := [some (.ref h), some (.ref t), some (.int (nI p0)), some (.int (nI (fig + 1))), some (.int (nI (10 * num + (tf p) - 48))), some (.int (nI (p + 1))), some (.int (nI (tf p)))]) dX4_readNumbers_147 rfl (nI_addk (by decide)) (by decide) rfl rfl ?_
              refine g_goto X 13 dX4_readNumbers_150 (by decide) ?_
              refine g_sub (L' := [some (.ref h), some (.ref t), some (.int (nI p0)), some (.int (nI (fig + 1))), some (.int (nI (10 * num + (tf p) - 48))), some (.int (nI (p + 1))), none]) ⟨rfl, ⟨rfl, ⟨rfl, ⟨rfl, ⟨rfl, ⟨rfl, trivial⟩⟩⟩⟩⟩⟩ ?_
              exact ih13 (p + 1) (by omega) (fig + 1) (10 * num + (tf p) - 48) to nu1 (by omega) (by omega) (by omega) (by omega) (by rw [hrd, show x - p = (x - (p + 1)) + 1 by omega, rdN, if_neg (show ¬ (tf p < 48 ∨ 57 < tf p) by omega), if_neg (show ¬ 3 < fig + 1 by omega)])
            · have c139_51n := ieq' (a := tf p) (b := 59) c139_51 (by omega) (by omega)
              exact absurd c139_51n (by omega)
          · have c129_50n := inle' (a := fig + 1) (b := 3) c129_50 (by omega) (by omega)
            refine g_bipush X (-4) dX4_readNumbers_132 (by decide) ?_
            exact g_iret X E dX4_readNumbers_134 ⟨to, nu1⟩ (-4) ⟨(by rw [hrd, show x - p = (x - (p + 1)) + 1 by omega, rdN, if_neg (show ¬ (tf p < 48 ∨ 57 < tf p) by omega), if_pos (show 3 < fig + 1 by omega)]; rfl), (by rw [hrd, show x - p = (x - (p + 1)) + 1 by omega, rdN, if_neg (show ¬ (tf p < 48 ∨ 57 < tf p) by omega), if_pos (show 3 < fig + 1 by omega)]), (by rw [hrd, show x - p = (x - (p + 1)) + 1 by omega, rdN, if_neg (show ¬ (tf p < 48 ∨ 57 < tf p) by omega), if_pos (show 3 < fig + 1 by omega)])⟩ rfl
  exact loop13 (x - p0) p0 (by omega) 0 0 0 nu (fun _ => rfl) (by omega) (by omega) (by omega) rfl
