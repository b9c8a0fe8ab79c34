set_option maxHeartbeats 4000000 in
set_option maxRecDepth 100000 in
theorem c_X8_begin (V : gV) (s : Nat) (sw : Nat) (sg : Nat) (day : Int32) (w : Nat → Int32) (g : Nat → Int32) (h : Nat) (hk : Nat) (hfw : Nat) (hfg : Nat) (hwb : Nat) (hld : Nat) (hte : Nat) (hpu : Nat) (hnu : Nat) (n : Nat) (m : Nat) (hwa : Int32) (hto : Int32) (fw : Nat → Int32) (fg : Nat → Int32)  : Kv V yX8_begin cX8_begin 2 ({ frames := 1, cells := 0, slots := 0, locals := 22 }) [.ref s] [(s, .inr (8, [.ref h, .ref sw, .ref sg, .int day])), (sw, .inl (V.2.2.1, 7, .inl w)), (sg, .inl (V.2.2.1, 7, .inl g)), (h, .inr (4, [.ref hk, .ref hfw, .ref hfg, .ref hwb, .ref hld, .ref hte, .ref hpu, .int (nI n), .int hwa, .int (nI m), .ref hnu, .int hto])), (hfw, .inl (V.2.2.1, 7, .inl fw)), (hfg, .inl (V.2.2.1, 7, .inl fg))] (fun u : Unit => True) (fun u => [(s, .inr (8, [.ref h, .ref sw, .ref sg, .int 0])), (sw, .inl (V.2.2.1, 7, .inl fw)), (sg, .inl (V.2.2.1, 7, .inl fg)), (h, .inr (4, [.ref hk, .ref hfw, .ref hfg, .ref hwb, .ref hld, .ref hte, .ref hpu, .int (nI n), .int hwa, .int (nI m), .ref hnu, .int hto])), (hfw, .inl (V.2.2.1, 7, .inl fw)), (hfg, .inl (V.2.2.1, 7, .inl fg))]) := by
  refine Kv.of [some (.ref s), none] (by decide) (Nat.le_of_ble_eq_true rfl) rfl rfl ?_
  intro Z X E
  have X : gX V Z RX8 cX8_begin 2 ({ frames := 1, cells := 0, slots := 0, locals := 22 }) := X
  refine g_aload_n X dX8_begin_0 rfl ?_
  refine g_iconst X (0) dX8_begin_1 (by decide) ?_
  refine g_put X uwX8 tyX8 tyX8_ok nmX8 0 rfl rfl 3 (by decide) kl_X8_18 rfl rfl rfl rfl (Nat.le_of_ble_eq_true rfl) gwX8 (ws' := [(s, .inr (8, [.ref h, .ref sw, .ref sg, .int 0])), (sw, .inl (V.2.2.1, 7, .inl w)), (sg, .inl (V.2.2.1, 7, .inl g)), (h, .inr (4, [.ref hk, .ref hfw, .ref hfg, .ref hwb, .ref hld, .ref hte, .ref hpu, .int (nI n), .int hwa, .int (nI m), .ref hnu, .int hto])), (hfw, .inl (V.2.2.1, 7, .inl fw)), (hfg, .inl (V.2.2.1, 7, .inl fg))]) rfl dX8_begin_2 ?_
  refine g_iconst X (0) dX8_begin_5 (by decide) ?_
  refine g_istore_n X (L' := [some (.ref s), some (.int 0)]) dX8_begin_6 (by decide) rfl rfl ?_
  have loop7 : ∀ (d7 i : Nat), i + d7 = 7 → ∀ (w1 : Nat → Int32) (g1 : Nat → Int32) (h1 : ∀ j, j < i → w1 j = fw j) (h2 : ∀ j, j < i → g1 j = fg j), G V Z 2 (0, 0) [(s, .inr (8, [.ref h, .ref sw, .ref sg, .int 0])), (sw, .inl (V.2.2.1, 7, .inl w1)), (sg, .inl (V.2.2.1, 7, .inl g1)), (h, .inr (4, [.ref hk, .ref hfw, .ref hfg, .ref hwb, .ref hld, .ref hte, .ref hpu, .int (nI n), .int hwa, .int (nI m), .ref hnu, .int hto])), (hfw, .inl (V.2.2.1, 7, .inl fw)), (hfg, .inl (V.2.2.1, 7, .inl fg))] 7 [some (.ref s), some (.int (nI i))] [] := by
    intro d7
    induction d7 with
    | zero =>
      intro i hi w1 g1 h1 h2
      refine g_iload_n X dX8_begin_7 rfl ?_
      refine g_bipush X (7) dX8_begin_8 (by decide) ?_
      refine g_icmp_ge X 57 dX8_begin_10 (by decide) (fun c10_1 => ?_) (fun c10_1 => absurd (tge (a := i) (b := 7) (by omega) (by omega) (by omega)) c10_1)
      refine g_arr 1 fw rfl (copied h1 (by omega)) (ws' := [(s, .inr (8, [.ref h, .ref sw, .ref sg, .int 0])), (sw, .inl (V.2.2.1, 7, .inl fw)), (sg, .inl (V.2.2.1, 7, .inl g1)), (h, .inr (4, [.ref hk, .ref hfw, .ref hfg, .ref hwb, .ref hld, .ref hte, .ref hpu, .int (nI n), .int hwa, .int (nI m), .ref hnu, .int hto])), (hfw, .inl (V.2.2.1, 7, .inl fw)), (hfg, .inl (V.2.2.1, 7, .inl fg))]) rfl ?_
      refine g_arr 2 fg rfl (copied h2 (by omega)) (ws' := [(s, .inr (8, [.ref h, .ref sw, .ref sg, .int 0])), (sw, .inl (V.2.2.1, 7, .inl fw)), (sg, .inl (V.2.2.1, 7, .inl fg)), (h, .inr (4, [.ref hk, .ref hfw, .ref hfg, .ref hwb, .ref hld, .ref hte, .ref hpu, .int (nI n), .int hwa, .int (nI m), .ref hnu, .int hto])), (hfw, .inl (V.2.2.1, 7, .inl fw)), (hfg, .inl (V.2.2.1, 7, .inl fg))]) rfl ?_
      exact g_vret X E dX8_begin_57 () trivial rfl
    | succ d7 ih7 =>
      intro i hi w1 g1 h1 h2
      refine g_iload_n X dX8_begin_7 rfl ?_
      refine g_bipush X (7) dX8_begin_8 (by decide) ?_
      refine g_icmp_ge X 57 dX8_begin_10 (by decide) (fun c10_2 => absurd c10_2 (fge (a := i) (b := 7) (by omega) (by omega) (by omega))) (fun c10_2 => ?_)
      refine g_aload_n X dX8_begin_13 rfl ?_
      refine g_get X uwX8 0 rfl rfl 1 (by decide) kl_X8_9 rfl rfl gwX8 dX8_begin_14 ?_
      refine g_iload_n X dX8_begin_17 rfl ?_
      refine g_aload_n X dX8_begin_18 rfl ?_
      refine g_get X uwX8 0 rfl rfl 0 (by decide) kl_X8_22 rfl rfl gwX8 dX8_begin_19 ?_
      refine g_getN X uwX4 3 rfl rfl 1 (by decide) kl_X8_26 rfl rfl gwX4 dX8_begin_22 ?_
      refine g_iload_n X dX8_begin_25 rfl ?_
      refine g_callNi X (c_X10_at V hfw 7 fw i (by omega) (by decide)) mo_X10_at kl_X8_31 [4] [0, 0, 0, 0, 1, 0] rfl (by decide +kernel) rfl rfl (fun _ => Nat.le_of_ble_eq_true rfl) (As := [.ref hfw, .int (nI i)]) (st := [.int (nI i), .ref sw]) (cs' := (0, 0)) rfl rfl rfl dX8_begin_26 (fun r_7 u_3 hp_4 ws_6 hw_5 => ?_)
      obtain rfl : r_7 = fw i := hp_4
      have hw_5x : ws_6 = [(s, .inr (8, [.ref h, .ref sw, .ref sg, .int 0])), (sw, .inl (V.2.2.1, 7, .inl w1)), (sg, .inl (V.2.2.1, 7, .inl g1)), (h, .inr (4, [.ref hk, .ref hfw, .ref hfg, .ref hwb, .ref hld, .ref hte, .ref hpu, .int (nI n), .int hwa, .int (nI m), .ref hnu, .int hto])), (hfw, .inl (V.2.2.1, 7, .inl fw)), (hfg, .inl (V.2.2.1, 7, .inl fg))] := hw_5.symm
      clear hw_5; subst hw_5x
      refine g_callNv X (c_X10_put V sw 7 w1 i (fw i) (by omega) (by decide)) mo_X10_put kl_X8_35 [1] [0, 1, 0, 0, 0, 0] rfl (by decide +kernel) rfl rfl (fun _ => Nat.le_of_ble_eq_true rfl) (As := [.ref sw, .int (nI i), .int (fw i)]) (st := []) (cs' := (0, 0)) rfl rfl rfl dX8_begin_29 (fun nf_8 hp_9 ws_11 hw_10 => ?_)
      obtain rfl : nf_8 = upd w1 i (fw i) := hp_9
      have hw_10x : ws_11 = [(s, .inr (8, [.ref h, .ref sw, .ref sg, .int 0])), (sw, .inl (V.2.2.1, 7, .inl (upd w1 i (fw i)))), (sg, .inl (V.2.2.1, 7, .inl g1)), (h, .inr (4, [.ref hk, .ref hfw, .ref hfg, .ref hwb, .ref hld, .ref hte, .ref hpu, .int (nI n), .int hwa, .int (nI m), .ref hnu, .int hto])), (hfw, .inl (V.2.2.1, 7, .inl fw)), (hfg, .inl (V.2.2.1, 7, .inl fg))] := hw_10.symm
      clear hw_10; subst hw_10x
      refine g_aload_n X dX8_begin_32 rfl ?_
      refine g_get X uwX8 0 rfl rfl 2 (by decide) kl_X8_15 rfl rfl gwX8 dX8_begin_33 ?_
      refine g_iload_n X dX8_begin_36 rfl ?_
      refine g_aload_n X dX8_begin_37 rfl ?_
      refine g_get X uwX8 0 rfl rfl 0 (by decide) kl_X8_22 rfl rfl gwX8 dX8_begin_38 ?_
      refine g_getN X uwX4 3 rfl rfl 2 (by decide) kl_X8_39 rfl rfl gwX4 dX8_begin_41 ?_
      refine g_iload_n X dX8_begin_44 rfl ?_
      refine g_callNi X (c_X10_at V hfg 7 fg i (by omega) (by decide)) mo_X10_at kl_X8_31 [5] [0, 0, 0, 0, 0, 1] rfl (by decide +kernel) rfl rfl (fun _ => Nat.le_of_ble_eq_true rfl) (As := [.ref hfg, .int (nI i)]) (st := [.int (nI i), .ref sg]) (cs' := (0, 0)) rfl rfl rfl dX8_begin_45 (fun r_17 u_13 hp_14 ws_16 hw_15 => ?_)
      obtain rfl : r_17 = fg i := hp_14
      have hw_15x : ws_16 = [(s, .inr (8, [.ref h, .ref sw, .ref sg, .int 0])), (sw, .inl (V.2.2.1, 7, .inl (upd w1 i (fw i)))), (sg, .inl (V.2.2.1, 7, .inl g1)), (h, .inr (4, [.ref hk, .ref hfw, .ref hfg, .ref hwb, .ref hld, .ref hte, .ref hpu, .int (nI n), .int hwa, .int (nI m), .ref hnu, .int hto])), (hfw, .inl (V.2.2.1, 7, .inl fw)), (hfg, .inl (V.2.2.1, 7, .inl fg))] := hw_15.symm
      clear hw_15; subst hw_15x
      refine g_callNv X (c_X10_put V sg 7 g1 i (fg i) (by omega) (by decide)) mo_X10_put kl_X8_35 [2] [0, 0, 1, 0, 0, 0] rfl (by decide +kernel) rfl rfl (fun _ => Nat.le_of_ble_eq_true rfl) (As := [.ref sg, .int (nI i), .int (fg i)]) (st := []) (cs' := (0, 0)) rfl rfl rfl dX8_begin_48 (fun nf_18 hp_19 ws_21 hw_20 => ?_)
      obtain rfl : nf_18 = upd g1 i (fg i) := hp_19
      have hw_20x : ws_21 = [(s, .inr (8, [.ref h, .ref sw, .ref sg, .int 0])), (sw, .inl (V.2.2.1, 7, .inl (upd w1 i (fw i)))), (sg, .inl (V.2.2.1, 7, .inl (upd g1 i (fg i)))), (h, .inr (4, [.ref hk, .ref hfw, .ref hfg, .ref hwb, .ref hld, .ref hte, .ref hpu, .int (nI n), .int hwa, .int (nI m), .ref hnu, .int hto])), (hfw, .inl (V.2.2.1, 7, .inl fw)), (hfg, .inl (V.2.2.1, 7, .inl fg))] := hw_20.symm
      clear hw_20; subst hw_20x
      refine g_iinc X (v := nI (i + 1)) (L' := [some (.ref s), some (.int (nI (i + 1)))]) dX8_begin_51 rfl (nI_addk (by decide)) (by decide) rfl rfl ?_
      refine g_goto X 7 dX8_begin_54 (by decide) ?_
      exact ih7 (i + 1) (by omega) (upd w1 i (fw i)) (upd g1 i (fg i)) (upd_pre h1) (upd_pre h2)
  exact loop7 7 0 (by omega) w g (fun j hj => absurd hj (Nat.not_lt_zero j)) (fun j hj => absurd hj (Nat.not_lt_zero j))

set_option maxHeartbeats 4000000 in
set_option maxRecDepth 100000 in
theorem c_X8_takeFrom (V : gV) (s : Nat) (sw : Nat) (sg : Nat) (day : Int32) (w : Nat → Int32) (g : Nat → Int32) (h : Nat) (o : Nat) (ow_ : Nat) (og_ : Nat) (oh : Nat) (oday : Int32) (ow : Nat → Int32) (og : Nat → Int32)  : Kv V yX8_takeFrom cX8_takeFrom 3 ({ frames := 1, cells := 0, slots := 0, locals := 22 }) [.ref s, .ref o] [(s, .inr (8, [.ref h, .ref sw, .ref sg, .int day])), (sw, .inl (V.2.2.1, 7, .inl w)), (sg, .inl (V.2.2.1, 7, .inl g)), (o, .inr (8, [.ref oh, .ref ow_, .ref og_, .int oday])), (ow_, .inl (V.2.2.1, 7, .inl ow)), (og_, .inl (V.2.2.1, 7, .inl og))] (fun u : Unit => True) (fun u => [(s, .inr (8, [.ref h, .ref sw, .ref sg, .int oday])), (sw, .inl (V.2.2.1, 7, .inl ow)), (sg, .inl (V.2.2.1, 7, .inl og)), (o, .inr (8, [.ref oh, .ref ow_, .ref og_, .int oday])), (ow_, .inl (V.2.2.1, 7, .inl ow)), (og_, .inl (V.2.2.1, 7, .inl og))]) := by
  refine Kv.of [some (.ref s), some (.ref o), none] (by decide) (Nat.le_of_ble_eq_true rfl) rfl rfl ?_
  intro Z X E
  have X : gX V Z RX8 cX8_takeFrom 3 ({ frames := 1, cells := 0, slots := 0, locals := 22 }) := X
  refine g_aload_n X dX8_takeFrom_0 rfl ?_
  refine g_aload_n X dX8_takeFrom_1 rfl ?_
  refine g_get X uwX8 3 rfl rfl 3 (by decide) kl_X8_18 rfl rfl gwX8 dX8_takeFrom_2 ?_
  refine g_put X uwX8 tyX8 tyX8_ok nmX8 0 rfl rfl 3 (by decide) kl_X8_18 rfl rfl rfl rfl (Nat.le_of_ble_eq_true rfl) gwX8 (ws' := [(s, .inr (8, [.ref h, .ref sw, .ref sg, .int oday])), (sw, .inl (V.2.2.1, 7, .inl w)), (sg, .inl (V.2.2.1, 7, .inl g)), (o, .inr (8, [.ref oh, .ref ow_, .ref og_, .int oday])), (ow_, .inl (V.2.2.1, 7, .inl ow)), (og_, .inl (V.2.2.1, 7, .inl og))]) rfl dX8_takeFrom_5 ?_
  refine g_iconst X (0) dX8_takeFrom_8 (by decide) ?_
  refine g_istore_n X (L' := [some (.ref s), some (.ref o), some (.int 0)]) dX8_takeFrom_9 (by decide) rfl rfl ?_
  have loop10 : ∀ (d10 i : Nat), i + d10 = 7 → ∀ (w1 : Nat → Int32) (g1 : Nat → Int32) (h1 : ∀ j, j < i → w1 j = ow j) (h2 : ∀ j, j < i → g1 j = og j), G V Z 3 (0, 0) [(s, .inr (8, [.ref h, .ref sw, .ref sg, .int oday])), (sw, .inl (V.2.2.1, 7, .inl w1)), (sg, .inl (V.2.2.1, 7, .inl g1)), (o, .inr (8, [.ref oh, .ref ow_, .ref og_, .int oday])), (ow_, .inl (V.2.2.1, 7, .inl ow)), (og_, .inl (V.2.2.1, 7, .inl og))] 10 [some (.ref s), some (.ref o), some (.int (nI i))] [] := by
    intro d10
    induction d10 with
    | zero =>
      intro i hi w1 g1 h1 h2
      refine g_iload_n X dX8_takeFrom_10 rfl ?_
      refine g_bipush X (7) dX8_takeFrom_11 (by decide) ?_
      refine g_icmp_ge X 54 dX8_takeFrom_13 (by decide) (fun c13_1 => ?_) (fun c13_1 => absurd (tge (a := i) (b := 7) (by omega) (by omega) (by omega)) c13_1)
      refine g_arr 1 ow rfl (copied h1 (by omega)) (ws' := [(s, .inr (8, [.ref h, .ref sw, .ref sg, .int oday])), (sw, .inl (V.2.2.1, 7, .inl ow)), (sg, .inl (V.2.2.1, 7, .inl g1)), (o, .inr (8, [.ref oh, .ref ow_, .ref og_, .int oday])), (ow_, .inl (V.2.2.1, 7, .inl ow)), (og_, .inl (V.2.2.1, 7, .inl og))]) rfl ?_
      refine g_arr 2 og rfl (copied h2 (by omega)) (ws' := [(s, .inr (8, [.ref h, .ref sw, .ref sg, .int oday])), (sw, .inl (V.2.2.1, 7, .inl ow)), (sg, .inl (V.2.2.1, 7, .inl og)), (o, .inr (8, [.ref oh, .ref ow_, .ref og_, .int oday])), (ow_, .inl (V.2.2.1, 7, .inl ow)), (og_, .inl (V.2.2.1, 7, .inl og))]) rfl ?_
      exact g_vret X E dX8_takeFrom_54 () trivial rfl
    | succ d10 ih10 =>
      intro i hi w1 g1 h1 h2
      refine g_iload_n X dX8_takeFrom_10 rfl ?_
      refine g_bipush X (7) dX8_takeFrom_11 (by decide) ?_
      refine g_icmp_ge X 54 dX8_takeFrom_13 (by decide) (fun c13_2 => absurd c13_2 (fge (a := i) (b := 7) (by omega) (by omega) (by omega))) (fun c13_2 => ?_)
      refine g_aload_n X dX8_takeFrom_16 rfl ?_
      refine g_get X uwX8 0 rfl rfl 1 (by decide) kl_X8_9 rfl rfl gwX8 dX8_takeFrom_17 ?_
      refine g_iload_n X dX8_takeFrom_20 rfl ?_
      refine g_aload_n X dX8_takeFrom_21 rfl ?_
      refine g_get X uwX8 3 rfl rfl 1 (by decide) kl_X8_9 rfl rfl gwX8 dX8_takeFrom_22 ?_
      refine g_iload_n X dX8_takeFrom_25 rfl ?_
      refine g_callNi X (c_X10_at V ow_ 7 ow i (by omega) (by decide)) mo_X10_at kl_X8_31 [4] [0, 0, 0, 0, 1, 0] rfl (by decide +kernel) rfl rfl (fun _ => Nat.le_of_ble_eq_true rfl) (As := [.ref ow_, .int (nI i)]) (st := [.int (nI i), .ref sw]) (cs' := (0, 0)) rfl rfl rfl dX8_takeFrom_26 (fun r_7 u_3 hp_4 ws_6 hw_5 => ?_)
      obtain rfl : r_7 = ow i := hp_4
      have hw_5x : ws_6 = [(s, .inr (8, [.ref h, .ref sw, .ref sg, .int oday])), (sw, .inl (V.2.2.1, 7, .inl w1)), (sg, .inl (V.2.2.1, 7, .inl g1)), (o, .inr (8, [.ref oh, .ref ow_, .ref og_, .int oday])), (ow_, .inl (V.2.2.1, 7, .inl ow)), (og_, .inl (V.2.2.1, 7, .inl og))] := hw_5.symm
      clear hw_5; subst hw_5x
      refine g_callNv X (c_X10_put V sw 7 w1 i (ow i) (by omega) (by decide)) mo_X10_put kl_X8_35 [1] [0, 1, 0, 0, 0, 0] rfl (by decide +kernel) rfl rfl (fun _ => Nat.le_of_ble_eq_true rfl) (As := [.ref sw, .int (nI i), .int (ow i)]) (st := []) (cs' := (0, 0)) rfl rfl rfl dX8_takeFrom_29 (fun nf_8 hp_9 ws_11 hw_10 => ?_)
      obtain rfl : nf_8 = upd w1 i (ow i) := hp_9
      have hw_10x : ws_11 = [(s, .inr (8, [.ref h, .ref sw, .ref sg, .int oday])), (sw, .inl (V.2.2.1, 7, .inl (upd w1 i (ow i)))), (sg, .inl (V.2.2.1, 7, .inl g1)), (o, .inr (8, [.ref oh, .ref ow_, .ref og_, .int oday])), (ow_, .inl (V.2.2.1, 7, .inl ow)), (og_, .inl (V.2.2.1, 7, .inl og))] := hw_10.symm
      clear hw_10; subst hw_10x
      refine g_aload_n X dX8_takeFrom_32 rfl ?_
      refine g_get X uwX8 0 rfl rfl 2 (by decide) kl_X8_15 rfl rfl gwX8 dX8_takeFrom_33 ?_
      refine g_iload_n X dX8_takeFrom_36 rfl ?_
      refine g_aload_n X dX8_takeFrom_37 rfl ?_
      refine g_get X uwX8 3 rfl rfl 2 (by decide) kl_X8_15 rfl rfl gwX8 dX8_takeFrom_38 ?_
      refine g_iload_n X dX8_takeFrom_41 rfl ?_
      refine g_callNi X (c_X10_at V og_ 7 og i (by omega) (by decide)) mo_X10_at kl_X8_31 [5] [0, 0, 0, 0, 0, 1] rfl (by decide +kernel) rfl rfl (fun _ => Nat.le_of_ble_eq_true rfl) (As := [.ref og_, .int (nI i)]) (st := [.int (nI i), .ref sg]) (cs' := (0, 0)) rfl rfl rfl dX8_takeFrom_42 (fun r_17 u_13 hp_14 ws_16 hw_15 => ?_)
      obtain rfl : r_17 = og i := hp_14
      have hw_15x : ws_16 = [(s, .inr (8, [.ref h, .ref sw, .ref sg, .int oday])), (sw, .inl (V.2.2.1, 7, .inl (upd w1 i (ow i)))), (sg, .inl (V.2.2.1, 7, .inl g1)), (o, .inr (8, [.ref oh, .ref ow_, .ref og_, .int oday])), (ow_, .inl (V.2.2.1, 7, .inl ow)), (og_, .inl (V.2.2.1, 7, .inl og))] := hw_15.symm
      clear hw_15; subst hw_15x
      refine g_callNv X (c_X10_put V sg 7 g1 i (og i) (by omega) (by decide)) mo_X10_put kl_X8_35 [2] [0, 0, 1, 0, 0, 0] rfl (by decide +kernel) rfl rfl (fun _ => Nat.le_of_ble_eq_true rfl) (As := [.ref sg, .int (nI i), .int (og i)]) (st := []) (cs' := (0, 0)) rfl rfl rfl dX8_takeFrom_45 (fun nf_18 hp_19 ws_21 hw_20 => ?_)
      obtain rfl : nf_18 = upd g1 i (og i) := hp_19
      have hw_20x : ws_21 = [(s, .inr (8, [.ref h, .ref sw, .ref sg, .int oday])), (sw, .inl (V.2.2.1, 7, .inl (upd w1 i (ow i)))), (sg, .inl (V.2.2.1, 7, .inl (upd g1 i (og i)))), (o, .inr (8, [.ref oh, .ref ow_, .ref og_, .int oday])), (ow_, .inl (V.2.2.1, 7, .inl ow)), (og_, .inl (V.2.2.1, 7, .inl og))] := hw_20.symm
      clear hw_20; subst hw_20x
      refine g_iinc X (v := nI (i + 1)) (L' := [some (.ref s), some (.ref o), some (.int (nI (i + 1)))]) dX8_takeFrom_48 rfl (nI_addk (by decide)) (by decide) rfl rfl ?_
      refine g_goto X 10 dX8_takeFrom_51 (by decide) ?_
      exact ih10 (i + 1) (by omega) (upd w1 i (ow i)) (upd g1 i (og i)) (upd_pre h1) (upd_pre h2)
  exact loop10 7 0 (by omega) w g (fun j hj => absurd hj (Nat.not_lt_zero j)) (fun j hj => absurd hj (Nat.not_lt_zero j))

set_option maxHeartbeats 4000000 in
set_option maxRecDepth 100000 in
theorem c_X6_add (V : gV) (ru : Nat) (ruc : Nat) (rum : Nat) (z : Nat) (rc : Nat → Nat) (rm : Nat → Int32) (c : Nat) (x : Int32) (hz : z < 6) : Kv V yX6_add cX6_add 3 ({ frames := 1, cells := 0, slots := 0, locals := 22 }) [.ref ru, .int (nI c), .int x] [(ru, .inr (6, [.ref ruc, .ref rum, .int (nI z)])), (ruc, .inl (V.2.2.1, 6, .inl (nIf rc))), (rum, .inl (V.2.2.1, 6, .inl rm))] (fun u : Unit => True) (fun u => [(ru, .inr (6, [.ref ruc, .ref rum, .int (nI (z + 1))])), (ruc, .inl (V.2.2.1, 6, .inl (nIf (updN rc z c)))), (rum, .inl (V.2.2.1, 6, .inl (upd rm z x)))]) := by
  refine Kv.of [some (.ref ru), some (.int (nI c)), some (.int x)] (by decide) (Nat.le_of_ble_eq_true rfl) rfl rfl ?_
  intro Z X E
  have X : gX V Z RX6 cX6_add 3 ({ frames := 1, cells := 0, slots := 0, locals := 22 }) := X
  refine g_aload_n X dX6_add_0 rfl ?_
  refine g_get X uwX6 0 rfl rfl 2 (by decide) kl_X6_18 rfl rfl gwX6 dX6_add_1 ?_
  refine g_bipush X (6) dX6_add_4 (by decide) ?_
  refine g_icmp_ge X 43 dX6_add_6 (by decide) (fun c6_1 => absurd c6_1 (fge (a := z) (b := 6) (by omega) (by omega) (by omega))) (fun c6_1 => ?_)
  refine g_aload_n X dX6_add_9 rfl ?_
  refine g_get X uwX6 0 rfl rfl 0 (by decide) kl_X6_9 rfl rfl gwX6 dX6_add_10 ?_
  refine g_aload_n X dX6_add_13 rfl ?_
  refine g_get X uwX6 0 rfl rfl 2 (by decide) kl_X6_18 rfl rfl gwX6 dX6_add_14 ?_
  refine g_iload_n X dX6_add_17 rfl ?_
  refine g_callNv X (c_X10_put V ruc 6 (nIf rc) z (nI c) (by omega) (by decide)) mo_X10_put kl_X6_22 [1] [0, 1, 0] rfl (by decide +kernel) rfl rfl (fun _ => Nat.le_of_ble_eq_true rfl) (As := [.ref ruc, .int (nI z), .int (nI c)]) (st := []) (cs' := (0, 0)) rfl rfl rfl dX6_add_18 (fun nf_2 hp_3 ws_5 hw_4 => ?_)
  obtain rfl : nf_2 = upd (nIf rc) z (nI c) := hp_3
  have hw_4x : ws_5 = [(ru, .inr (6, [.ref ruc, .ref rum, .int (nI z)])), (ruc, .inl (V.2.2.1, 6, .inl (upd (nIf rc) z (nI c)))), (rum, .inl (V.2.2.1, 6, .inl rm))] := hw_4.symm
  clear hw_4; subst hw_4x
  refine g_aload_n X dX6_add_21 rfl ?_
  refine g_get X uwX6 0 rfl rfl 1 (by decide) kl_X6_15 rfl rfl gwX6 dX6_add_22 ?_
  refine g_aload_n X dX6_add_25 rfl ?_
  refine g_get X uwX6 0 rfl rfl 2 (by decide) kl_X6_18 rfl rfl gwX6 dX6_add_26 ?_
  refine g_iload_n X dX6_add_29 rfl ?_
  refine g_callNv X (c_X10_put V rum 6 rm z x (by omega) (by decide)) mo_X10_put kl_X6_22 [2] [0, 0, 1] rfl (by decide +kernel) rfl rfl (fun _ => Nat.le_of_ble_eq_true rfl) (As := [.ref rum, .int (nI z), .int x]) (st := []) (cs' := (0, 0)) rfl rfl rfl dX6_add_30 (fun nf_7 hp_8 ws_10 hw_9 => ?_)
  obtain rfl : nf_7 = upd rm z x := hp_8
  have hw_9x : ws_10 = [(ru, .inr (6, [.ref ruc, .ref rum, .int (nI z)])), (ruc, .inl (V.2.2.1, 6, .inl (upd (nIf rc) z (nI c)))), (rum, .inl (V.2.2.1, 6, .inl (upd rm z x)))] := hw_9.symm
  clear hw_9; subst hw_9x
  refine g_aload_n X dX6_add_33 rfl ?_
  refine g_dup X dX6_add_34 rfl ?_
  refine g_get X uwX6 0 rfl rfl 2 (by decide) kl_X6_18 rfl rfl gwX6 dX6_add_35 ?_
  refine g_iconst X (1) dX6_add_38 (by decide) ?_
  refine g_iadd X dX6_add_39 ?_
  refine g_toe (x' := nI (z + 1)) (nI_add' rfl rfl) ?_
  refine g_put X uwX6 tyX6 tyX6_ok nmX6 0 rfl rfl 2 (by decide) kl_X6_18 rfl rfl rfl rfl (Nat.le_of_ble_eq_true rfl) gwX6 (ws' := [(ru, .inr (6, [.ref ruc, .ref rum, .int (nI (z + 1))])), (ruc, .inl (V.2.2.1, 6, .inl (upd (nIf rc) z (nI c)))), (rum, .inl (V.2.2.1, 6, .inl (upd rm z x)))]) rfl dX6_add_40 ?_
  refine g_arr 1 (nIf (updN rc z c)) rfl (fun j _ => updN_eq rc z c j) (ws' := [(ru, .inr (6, [.ref ruc, .ref rum, .int (nI (z + 1))])), (ruc, .inl (V.2.2.1, 6, .inl (nIf (updN rc z c)))), (rum, .inl (V.2.2.1, 6, .inl (upd rm z x)))]) rfl ?_
  exact g_vret X E dX6_add_43 () trivial rfl

set_option maxHeartbeats 4000000 in
set_option maxRecDepth 100000 in
theorem c_X6_fit (V : gV) (ru : Nat) (ruc : Nat) (rum : Nat) (z : Nat) (rc : Nat → Nat) (rm : Nat → Int32) (s : Nat) (sw : Nat) (sg : Nat) (day : Int32) (w : Nat → Int32) (h : Nat) (hz : z ≤ 6) (hr : ∀ i, i < z → rc i < 7) : Ki V yX6_fit cX6_fit 3 .boolean ({ frames := 2, cells := 0, slots := 0, locals := 42 }) [.ref ru, .ref s] [(ru, .inr (6, [.ref ruc, .ref rum, .int (nI z)])), (ruc, .inl (V.2.2.1, 6, .inl (nIf rc))), (rum, .inl (V.2.2.1, 6, .inl rm)), (s, .inr (8, [.ref h, .ref sw, .ref sg, .int day])), (sw, .inl (V.2.2.1, 7, .inl w))] (fun (r : Int32) (u : Unit) => r = fitF z rc rm w) (fun u => [(ru, .inr (6, [.ref ruc, .ref rum, .int (nI z)])), (ruc, .inl (V.2.2.1, 6, .inl (nIf rc))), (rum, .inl (V.2.2.1, 6, .inl rm)), (s, .inr (8, [.ref h, .ref sw, .ref sg, .int day])), (sw, .inl (V.2.2.1, 7, .inl w))]) := by
  refine Ki.of [some (.ref ru), some (.ref s), none] (by decide) (Nat.le_of_ble_eq_true rfl) rfl rfl ?_
  intro Z X E
  have X : gX V Z RX6 cX6_fit 3 ({ frames := 2, cells := 0, slots := 0, locals := 42 }) := X
  refine g_iconst X (0) dX6_fit_0 (by decide) ?_
  refine g_istore_n X (L' := [some (.ref ru), some (.ref s), some (.int 0)]) dX6_fit_1 (by decide) rfl rfl ?_
  have loop2 : ∀ (d2 i : Nat), i + d2 = z → ∀  (h1 : fst1 (fitP rc rm w) i = none), G V Z 3 (0, 0) [(ru, .inr (6, [.ref ruc, .ref rum, .int (nI z)])), (ruc, .inl (V.2.2.1, 6, .inl (nIf rc))), (rum, .inl (V.2.2.1, 6, .inl rm)), (s, .inr (8, [.ref h, .ref sw, .ref sg, .int day])), (sw, .inl (V.2.2.1, 7, .inl w))] 2 [some (.ref ru), some (.ref s), some (.int (nI i))] [] := by
    intro d2
    induction d2 with
    | zero =>
      intro i hi h1
      refine g_iload_n X dX6_fit_2 rfl ?_
      refine g_aload_n X dX6_fit_3 rfl ?_
      refine g_get X uwX6 0 rfl rfl 2 (by decide) kl_X6_18 rfl rfl gwX6 dX6_fit_4 ?_
      refine g_icmp_ge X 41 dX6_fit_7 (by decide) (fun c7_1 => ?_) (fun c7_1 => absurd (tge (a := i) (b := z) (by omega) (by omega) (by omega)) c7_1)
      refine g_iconst X (1) dX6_fit_41 (by decide) ?_
      exact g_zret X E dX6_fit_42 () 1 rfl (by have e : i = z := (by omega); subst e; rw [fitF, h1]; rfl) rfl
    | succ d2 ih2 =>
      intro i hi h1
      refine g_iload_n X dX6_fit_2 rfl ?_
      refine g_aload_n X dX6_fit_3 rfl ?_
      refine g_get X uwX6 0 rfl rfl 2 (by decide) kl_X6_18 rfl rfl gwX6 dX6_fit_4 ?_
      refine g_icmp_ge X 41 dX6_fit_7 (by decide) (fun c7_2 => absurd c7_2 (fge (a := i) (b := z) (by omega) (by omega) (by omega))) (fun c7_2 => ?_)
      refine g_aload_n X dX6_fit_10 rfl ?_
      refine g_aload_n X dX6_fit_11 rfl ?_
      refine g_get X uwX6 0 rfl rfl 0 (by decide) kl_X6_9 rfl rfl gwX6 dX6_fit_12 ?_
      refine g_iload_n X dX6_fit_15 rfl ?_
      refine g_callNi X (c_X10_at V ruc 6 (nIf rc) i (by omega) (by decide)) mo_X10_at kl_X6_26 [1] [0, 1, 0, 0, 0] rfl (by decide +kernel) rfl rfl (fun _ => Nat.le_of_ble_eq_true rfl) (As := [.ref ruc, .int (nI i)]) (st := [.ref s]) (cs' := (0, 0)) rfl rfl rfl dX6_fit_16 (fun r_7 u_3 hp_4 ws_6 hw_5 => ?_)
      obtain rfl : r_7 = (nIf rc) i := hp_4
      have hw_5x : ws_6 = [(ru, .inr (6, [.ref ruc, .ref rum, .int (nI z)])), (ruc, .inl (V.2.2.1, 6, .inl (nIf rc))), (rum, .inl (V.2.2.1, 6, .inl rm)), (s, .inr (8, [.ref h, .ref sw, .ref sg, .int day])), (sw, .inl (V.2.2.1, 7, .inl w))] := hw_5.symm
      clear hw_5; subst hw_5x
      refine g_toe (nI (rc i)) rfl ?_
      refine g_callVi X (c_X8_wrongOf V s sw sg day w h (rc i) (hr i (by omega))) mo_X8_wrongOf kl_X6_30 [3, 4] [0, 0, 0, 1, 2] rfl (by decide +kernel) rfl rfl (fun _ => Nat.le_of_ble_eq_true rfl) 3 8 rfl rfl (As := [.int (nI (rc i))]) (st := []) (cs' := (0, 0)) rfl rfl rfl rfl dX6_fit_19 (fun r_12 u_8 hp_9 ws_11 hw_10 => ?_)
      obtain rfl : r_12 = w (rc i) := hp_9
      have hw_10x : ws_11 = [(ru, .inr (6, [.ref ruc, .ref rum, .int (nI z)])), (ruc, .inl (V.2.2.1, 6, .inl (nIf rc))), (rum, .inl (V.2.2.1, 6, .inl rm)), (s, .inr (8, [.ref h, .ref sw, .ref sg, .int day])), (sw, .inl (V.2.2.1, 7, .inl w))] := hw_10.symm
      clear hw_10; subst hw_10x
      refine g_aload_n X dX6_fit_22 rfl ?_
      refine g_get X uwX6 0 rfl rfl 1 (by decide) kl_X6_15 rfl rfl gwX6 dX6_fit_23 ?_
      refine g_iload_n X dX6_fit_26 rfl ?_
      refine g_callNi X (c_X10_at V rum 6 rm i (by omega) (by decide)) mo_X10_at kl_X6_26 [2] [0, 0, 1, 0, 0] rfl (by decide +kernel) rfl rfl (fun _ => Nat.le_of_ble_eq_true rfl) (As := [.ref rum, .int (nI i)]) (st := [.int (w (rc i))]) (cs' := (0, 0)) rfl rfl rfl dX6_fit_27 (fun r_17 u_13 hp_14 ws_16 hw_15 => ?_)
      obtain rfl : r_17 = rm i := hp_14
      have hw_15x : ws_16 = [(ru, .inr (6, [.ref ruc, .ref rum, .int (nI z)])), (ruc, .inl (V.2.2.1, 6, .inl (nIf rc))), (rum, .inl (V.2.2.1, 6, .inl rm)), (s, .inr (8, [.ref h, .ref sw, .ref sg, .int day])), (sw, .inl (V.2.2.1, 7, .inl w))] := hw_15.symm
      clear hw_15; subst hw_15x
      refine g_icmp_eq X 35 dX6_fit_30 (by decide) (fun c30_18 => ?_) (fun c30_18 => ?_)
      · refine g_iinc X (v := nI (i + 1)) (L' := [some (.ref ru), some (.ref s), some (.int (nI (i + 1)))]) dX6_fit_35 rfl (nI_addk (by decide)) (by decide) rfl rfl ?_
        refine g_goto X 2 dX6_fit_38 (by decide) ?_
        exact ih2 (i + 1) (by omega) (fst1_n h1 (by rw [fitP]; simp [c30_18]))
      · refine g_iconst X (0) dX6_fit_33 (by decide) ?_
        exact g_zret X E dX6_fit_34 () 0 rfl (by rw [fitF, fst1_at (r := 0) h1 (by rw [fitP]; simp [c30_18]) (by omega)]; rfl) rfl
  exact loop2 z 0 (by omega) rfl

set_option maxHeartbeats 4000000 in
set_option maxRecDepth 100000 in
theorem c_X9_append (V : gV) (t : Nat) (tl : Nat) (tf : Nat → Int32) (x : Nat) (c : Int32) (hx : x < 200) : Kv V yX9_append cX9_append 2 ({ frames := 1, cells := 0, slots := 0, locals := 22 }) [.ref t, .int c] [(t, .inr (9, [.ref tl, .int (nI x)])), (tl, .inl (V.2.2.1, 200, .inl tf))] (fun u : Unit => True) (fun u => [(t, .inr (9, [.ref tl, .int (nI (x + 1))])), (tl, .inl (V.2.2.1, 200, .inl (upd tf x c)))]) := by
  refine Kv.of [some (.ref t), some (.int c)] (by decide) (Nat.le_of_ble_eq_true rfl) rfl rfl ?_
  intro Z X E
  have X : gX V Z RX9 cX9_append 2 ({ frames := 1, cells := 0, slots := 0, locals := 22 }) := X
  refine g_aload_n X dX9_append_0 rfl ?_
  refine g_get X uwX9 0 rfl rfl 1 (by decide) kl_X9_15 rfl rfl gwX9 dX9_append_1 ?_
  refine g_sipush X (200) dX9_append_4 (by decide) ?_
  refine g_icmp_ge X 32 dX9_append_7 (by decide) (fun c7_1 => absurd c7_1 (fge (a := x) (b := 200) (by omega) (by omega) (by omega))) (fun c7_1 => ?_)
  refine g_aload_n X dX9_append_10 rfl ?_
  refine g_get X uwX9 0 rfl rfl 0 (by decide) kl_X9_9 rfl rfl gwX9 dX9_append_11 ?_
  refine g_aload_n X dX9_append_14 rfl ?_
  refine g_get X uwX9 0 rfl rfl 1 (by decide) kl_X9_15 rfl rfl gwX9 dX9_append_15 ?_
  refine g_iload_n X dX9_append_18 rfl ?_
  refine g_callNv X (c_X10_put V tl 200 tf x c (by omega) (by decide)) mo_X10_put kl_X9_19 [1] [0, 1] rfl (by decide +kernel) rfl rfl (fun _ => Nat.le_of_ble_eq_true rfl) (As := [.ref tl, .int (nI x), .int c]) (st := []) (cs' := (0, 0)) rfl rfl rfl dX9_append_19 (fun nf_2 hp_3 ws_5 hw_4 => ?_)
  obtain rfl : nf_2 = upd tf x c := hp_3
  have hw_4x : ws_5 = [(t, .inr (9, [.ref tl, .int (nI x)])), (tl, .inl (V.2.2.1, 200, .inl (upd tf x c)))] := hw_4.symm
  clear hw_4; subst hw_4x
  refine g_aload_n X dX9_append_22 rfl ?_
  refine g_dup X dX9_append_23 rfl ?_
  refine g_get X uwX9 0 rfl rfl 1 (by decide) kl_X9_15 rfl rfl gwX9 dX9_append_24 ?_
  refine g_iconst X (1) dX9_append_27 (by decide) ?_
  refine g_iadd X dX9_append_28 ?_
  refine g_toe (x' := nI (x + 1)) (nI_add' rfl rfl) ?_
  refine g_put X uwX9 tyX9 tyX9_ok nmX9 0 rfl rfl 1 (by decide) kl_X9_15 rfl rfl rfl rfl (Nat.le_of_ble_eq_true rfl) gwX9 (ws' := [(t, .inr (9, [.ref tl, .int (nI (x + 1))])), (tl, .inl (V.2.2.1, 200, .inl (upd tf x c)))]) rfl dX9_append_29 ?_
  exact g_vret X E dX9_append_32 () trivial rfl

set_option maxHeartbeats 4000000 in
set_option maxRecDepth 100000 in
theorem c_X9_letterAt (V : gV) (t : Nat) (tl : Nat) (tf : Nat → Int32) (x : Nat) (i : Nat) (hi : i < 200) : Ki V yX9_letterAt cX9_letterAt 2 .int ({ frames := 1, cells := 0, slots := 0, locals := 21 }) [.ref t, .int (nI i)] [(t, .inr (9, [.ref tl, .int (nI x)])), (tl, .inl (V.2.2.1, 200, .inl tf))] (fun (r : Int32) (u : Unit) => r = tf i) (fun u => [(t, .inr (9, [.ref tl, .int (nI x)])), (tl, .inl (V.2.2.1, 200, .inl tf))]) := by
  refine Ki.of [some (.ref t), some (.int (nI i))] (by decide) (Nat.le_of_ble_eq_true rfl) rfl rfl ?_
  intro Z X E
  have X : gX V Z RX9 cX9_letterAt 2 ({ frames := 1, cells := 0, slots := 0, locals := 21 }) := X
  refine g_aload_n X dX9_letterAt_0 rfl ?_
  refine g_get X uwX9 0 rfl rfl 0 (by decide) kl_X9_9 rfl rfl gwX9 dX9_letterAt_1 ?_
  refine g_iload_n X dX9_letterAt_4 rfl ?_
  refine g_callNi X (c_X10_at V tl 200 tf i (by omega) (by decide)) mo_X10_at kl_X9_23 [1] [0, 1] rfl (by decide +kernel) rfl rfl (fun _ => Nat.le_of_ble_eq_true rfl) (As := [.ref tl, .int (nI i)]) (st := []) (cs' := (0, 0)) rfl rfl rfl dX9_letterAt_5 (fun r_5 u_1 hp_2 ws_4 hw_3 => ?_)
  obtain rfl : r_5 = tf i := hp_2
  have hw_3x : ws_4 = [(t, .inr (9, [.ref tl, .int (nI x)])), (tl, .inl (V.2.2.1, 200, .inl tf))] := hw_3.symm
  clear hw_3; subst hw_3x
  exact g_iret X E dX9_letterAt_8 () (tf i) (by first | rfl | (simp []; done)) rfl

set_option maxHeartbeats 4000000 in
set_option maxRecDepth 100000 in
theorem c_X3_oneLesson (V : gV) (s : Nat) (sw : Nat) (sg : Nat) (day : Int32) (w : Nat → Int32) (h : Nat) (hk : Nat) (hfw : Nat) (hfg : Nat) (hwb : Nat) (hld : Nat) (hte : Nat) (hpu : Nat) (hnu : Nat) (n : Nat) (m : Nat) (hwa : Int32) (hto : Int32) (k : Nat → Int32) (x : Int32) (hn : n ≤ 7) (hB : Bd n w) : Ki V yX3_oneLesson cX3_oneLesson 7 .int ({ frames := 3, cells := 0, slots := 0, locals := 67 }) [.ref s, .int x] [(s, .inr (8, [.ref h, .ref sw, .ref sg, .int day])), (sw, .inl (V.2.2.1, 7, .inl w)), (h, .inr (4, [.ref hk, .ref hfw, .ref hfg, .ref hwb, .ref hld, .ref hte, .ref hpu, .int (nI n), .int hwa, .int (nI m), .ref hnu, .int hto])), (hk, .inl (V.2.2.1, 7, .inl k))] (fun (r : Int32) (u : Unit) => r = oneF k day n x w) (fun u => [(s, .inr (8, [.ref h, .ref sw, .ref sg, .int day])), (sw, .inl (V.2.2.1, 7, .inl w)), (h, .inr (4, [.ref hk, .ref hfw, .ref hfg, .ref hwb, .ref hld, .ref hte, .ref hpu, .int (nI n), .int hwa, .int (nI m), .ref hnu, .int hto])), (hk, .inl (V.2.2.1, 7, .inl k))]) := by
  refine Ki.of [some (.ref s), some (.int x), none, none, none, none, none] (by decide) (Nat.le_of_ble_eq_true rfl) rfl rfl ?_
  intro Z X E
  have X : gX V Z RX3 cX3_oneLesson 7 ({ frames := 3, cells := 0, slots := 0, locals := 67 }) := X
  refine g_aload_n X dX3_oneLesson_0 rfl ?_
  refine g_getN X uwX8 0 rfl rfl 0 (by decide) kl_X3_35 rfl rfl gwX8 dX3_oneLesson_1 ?_
  refine g_getN X uwX4 2 rfl rfl 7 (by decide) kl_X3_39 rfl rfl gwX4 dX3_oneLesson_4 ?_
  refine g_istore_n X (L' := [some (.ref s), some (.int x), some (.int (nI n)), none, none, none, none]) dX3_oneLesson_7 (by decide) rfl rfl ?_
  refine g_iconst X (0) dX3_oneLesson_8 (by decide) ?_
  refine g_istore_n X (L' := [some (.ref s), some (.int x), some (.int (nI n)), some (.int 0), none, none, none]) dX3_oneLesson_9 (by decide) rfl rfl ?_
  have loop10 : ∀ (d10 a : Nat), a + d10 = n → ∀  (h1 : fst1 (oneP k day n x w) a = none), G V Z 7 (0, 0) [(s, .inr (8, [.ref h, .ref sw, .ref sg, .int day])), (sw, .inl (V.2.2.1, 7, .inl w)), (h, .inr (4, [.ref hk, .ref hfw, .ref hfg, .ref hwb, .ref hld, .ref hte, .ref hpu, .int (nI n), .int hwa, .int (nI m), .ref hnu, .int hto])), (hk, .inl (V.2.2.1, 7, .inl k))] 10 [some (.ref s), some (.int x), some (.int (nI n)), some (.int (nI a)), none, none, none] [] := by
    intro d10
    induction d10 with
    | zero =>
      intro a ha h1
      refine g_iload_n X dX3_oneLesson_10 rfl ?_
      refine g_iload_n X dX3_oneLesson_11 rfl ?_
      refine g_icmp_ge X 90 dX3_oneLesson_12 (by decide) (fun c12_1 => ?_) (fun c12_1 => absurd (tge (a := a) (b := n) (by omega) (by omega) (by omega)) c12_1)
      refine g_bipush X (-4) dX3_oneLesson_90 (by decide) ?_
      exact g_iret X E dX3_oneLesson_92 () (-4) (by have e : a = n := (by omega); subst e; rw [oneF, h1]; rfl) rfl
    | succ d10 ih10 =>
      intro a ha h1
      refine g_iload_n X dX3_oneLesson_10 rfl ?_
      refine g_iload_n X dX3_oneLesson_11 rfl ?_
      refine g_icmp_ge X 90 dX3_oneLesson_12 (by decide) (fun c12_2 => absurd c12_2 (fge (a := a) (b := n) (by omega) (by omega) (by omega))) (fun c12_2 => ?_)
      refine g_iconst X (0) dX3_oneLesson_15 (by decide) ?_
      refine g_istore X (L' := [some (.ref s), some (.int x), some (.int (nI n)), some (.int (nI a)), some (.int 0), none, none]) dX3_oneLesson_16 (by decide) rfl rfl ?_
      have loop18_3 : ∀ (d18 b : Nat), b + d18 = n → ∀  (h2 : fst1 (oneQ k day n x w a) b = none), G V Z 7 (0, 0) [(s, .inr (8, [.ref h, .ref sw, .ref sg, .int day])), (sw, .inl (V.2.2.1, 7, .inl w)), (h, .inr (4, [.ref hk, .ref hfw, .ref hfg, .ref hwb, .ref hld, .ref hte, .ref hpu, .int (nI n), .int hwa, .int (nI m), .ref hnu, .int hto])), (hk, .inl (V.2.2.1, 7, .inl k))] 18 [some (.ref s), some (.int x), some (.int (nI n)), some (.int (nI a)), some (.int (nI b)), none, none] [] := by
        intro d18
        induction d18 with
        | zero =>
          intro b hb h2
          refine g_iload X dX3_oneLesson_18 rfl ?_
          refine g_iload_n X dX3_oneLesson_20 rfl ?_
          refine g_icmp_ge X 84 dX3_oneLesson_21 (by decide) (fun c21_4 => ?_) (fun c21_4 => absurd (tge (a := b) (b := n) (by omega) (by omega) (by omega)) c21_4)
          refine g_iinc X (v := nI (a + 1)) (L' := [some (.ref s), some (.int x), some (.int (nI n)), some (.int (nI (a + 1))), some (.int (nI b)), none, none]) dX3_oneLesson_84 rfl (nI_addk (by decide)) (by decide) rfl rfl ?_
          refine g_goto X 10 dX3_oneLesson_87 (by decide) ?_
          refine g_sub (L' := [some (.ref s), some (.int x), some (.int (nI n)), some (.int (nI (a + 1))), none, none, none]) ⟨rfl, ⟨rfl, ⟨rfl, ⟨rfl, trivial⟩⟩⟩⟩ ?_
          exact ih10 (a + 1) (by omega) (fst1_n h1 (by have e : b = n := (by omega); subst e; exact h2))
        | succ d18 ih18 =>
          intro b hb h2
          refine g_iload X dX3_oneLesson_18 rfl ?_
          refine g_iload_n X dX3_oneLesson_20 rfl ?_
          refine g_icmp_ge X 84 dX3_oneLesson_21 (by decide) (fun c21_5 => absurd c21_5 (fge (a := b) (b := n) (by omega) (by omega) (by omega))) (fun c21_5 => ?_)
          refine g_aload_n X dX3_oneLesson_24 rfl ?_
          refine g_iload X dX3_oneLesson_25 rfl ?_
          refine g_callVi X (c_X8_wrongOf V s sw sg day w h b (by omega)) mo_X8_wrongOf kl_X3_44 [0, 1] [1, 2, 0, 0] rfl (by decide +kernel) rfl rfl (fun _ => Nat.le_of_ble_eq_true rfl) 0 8 rfl rfl (As := [.int (nI b)]) (st := []) (cs' := (0, 0)) rfl rfl rfl rfl dX3_oneLesson_27 (fun r_10 u_6 hp_7 ws_9 hw_8 => ?_)
          obtain rfl : r_10 = w b := hp_7
          have hw_8x : ws_9 = [(s, .inr (8, [.ref h, .ref sw, .ref sg, .int day])), (sw, .inl (V.2.2.1, 7, .inl w)), (h, .inr (4, [.ref hk, .ref hfw, .ref hfg, .ref hwb, .ref hld, .ref hte, .ref hpu, .int (nI n), .int hwa, .int (nI m), .ref hnu, .int hto])), (hk, .inl (V.2.2.1, 7, .inl k))] := hw_8.symm
          clear hw_8; subst hw_8x
          refine g_istore X (L' := [some (.ref s), some (.int x), some (.int (nI n)), some (.int (nI a)), some (.int (nI b)), some (.int (w b)), none]) dX3_oneLesson_30 (by decide) rfl rfl ?_
          refine g_iload_n X dX3_oneLesson_32 rfl ?_
          refine g_iload X dX3_oneLesson_33 rfl ?_
          refine g_icmp_eq X 45 dX3_oneLesson_35 (by decide) (fun c35_11 => ?_) (fun c35_11 => ?_)
          · have c35_11n := ieq' (a := a) (b := b) c35_11 (by omega) (by omega)
            refine g_aload_n X dX3_oneLesson_45 rfl ?_
            refine g_iload_n X dX3_oneLesson_46 rfl ?_
            refine g_callVi X (c_X8_isWithin V s sw sg day w h hk hfw hfg hwb hld hte hpu hnu n m hwa hto x (by omega)) mo_X8_isWithin kl_X3_21 [0, 1, 2] [1, 2, 3, 0] rfl (by decide +kernel) rfl rfl (fun _ => Nat.le_of_ble_eq_true rfl) 0 8 rfl rfl (As := [.int x]) (st := []) (cs' := (0, 0)) rfl rfl rfl rfl dX3_oneLesson_47 (fun r_16 u_12 hp_13 ws_15 hw_14 => ?_)
            obtain rfl : r_16 = wiF n x w := hp_13
            have hw_14x : ws_15 = [(s, .inr (8, [.ref h, .ref sw, .ref sg, .int day])), (sw, .inl (V.2.2.1, 7, .inl w)), (h, .inr (4, [.ref hk, .ref hfw, .ref hfg, .ref hwb, .ref hld, .ref hte, .ref hpu, .int (nI n), .int hwa, .int (nI m), .ref hnu, .int hto])), (hk, .inl (V.2.2.1, 7, .inl k))] := hw_14.symm
            clear hw_14; subst hw_14x
            refine g_istore X (L' := [some (.ref s), some (.int x), some (.int (nI n)), some (.int (nI a)), some (.int (nI b)), some (.int (w b)), some (.int (wiF n x w))]) dX3_oneLesson_50 (by decide) rfl rfl ?_
            refine g_aload_n X dX3_oneLesson_52 rfl ?_
            refine g_iload X dX3_oneLesson_53 rfl ?_
            refine g_iload X dX3_oneLesson_55 rfl ?_
            refine g_callVv X (c_X8_makeWrong V s sw sg day w h b (w b) (by omega)) mo_X8_makeWrong kl_X3_52 [0, 1] [1, 2, 0, 0] rfl (by decide +kernel) rfl rfl (fun _ => Nat.le_of_ble_eq_true rfl) 0 8 rfl rfl (As := [.int (nI b), .int (w b)]) (st := []) (cs' := (0, 0)) rfl rfl rfl rfl dX3_oneLesson_57 (fun nw_17 hp_18 ws_20 hw_19 => ?_)
            obtain rfl : nw_17 = upd w b (clampF (w b)) := hp_18
            have hw_19x : ws_20 = [(s, .inr (8, [.ref h, .ref sw, .ref sg, .int day])), (sw, .inl (V.2.2.1, 7, .inl (upd w b (clampF (w b))))), (h, .inr (4, [.ref hk, .ref hfw, .ref hfg, .ref hwb, .ref hld, .ref hte, .ref hpu, .int (nI n), .int hwa, .int (nI m), .ref hnu, .int hto])), (hk, .inl (V.2.2.1, 7, .inl k))] := hw_19.symm
            clear hw_19; subst hw_19x
            refine g_arr 1 w rfl (back0 (hB b (by omega))) (ws' := [(s, .inr (8, [.ref h, .ref sw, .ref sg, .int day])), (sw, .inl (V.2.2.1, 7, .inl w)), (h, .inr (4, [.ref hk, .ref hfw, .ref hfg, .ref hwb, .ref hld, .ref hte, .ref hpu, .int (nI n), .int hwa, .int (nI m), .ref hnu, .int hto])), (hk, .inl (V.2.2.1, 7, .inl k))]) rfl ?_
            refine g_iload_n X dX3_oneLesson_60 rfl ?_
            refine g_iload X dX3_oneLesson_61 rfl ?_
            refine g_icmp_eq X 78 dX3_oneLesson_63 (by decide) (fun c63_22 => ?_) (fun c63_22 => absurd (teq (a := a) (b := b) (by omega) (by omega) (by omega)) c63_22)
            refine g_iinc X (v := nI (b + 1)) (L' := [some (.ref s), some (.int x), some (.int (nI n)), some (.int (nI a)), some (.int (nI (b + 1))), some (.int (w b)), some (.int (wiF n x w))]) dX3_oneLesson_78 rfl (nI_addk (by decide)) (by decide) rfl rfl ?_
            refine g_goto X 18 dX3_oneLesson_81 (by decide) ?_
            refine g_sub (L' := [some (.ref s), some (.int x), some (.int (nI n)), some (.int (nI a)), some (.int (nI (b + 1))), none, none]) ⟨rfl, ⟨rfl, ⟨rfl, ⟨rfl, ⟨rfl, trivial⟩⟩⟩⟩⟩ ?_
            exact ih18 (b + 1) (by omega) (fst1_n h2 (by rw [oneQ]; simp [c35_11, c35_11n, c63_22]))
          · have c35_11n := ine' (a := a) (b := b) c35_11 (by omega) (by omega)
            refine g_aload_n X dX3_oneLesson_38 rfl ?_
            refine g_iload_n X dX3_oneLesson_39 rfl ?_
            refine g_iload X dX3_oneLesson_40 rfl ?_
            refine g_callVv X (c_X8_learn V s sw sg day w h hk hfw hfg hwb hld hte hpu hnu n m hwa hto k a b (by omega) (by omega)) mo_X8_learn kl_X3_48 [0, 1, 2, 3] [1, 2, 3, 4] rfl (by decide +kernel) rfl rfl (fun _ => Nat.le_of_ble_eq_true rfl) 0 8 rfl rfl (As := [.int (nI a), .int (nI b)]) (st := []) (cs' := (0, 0)) rfl rfl rfl rfl dX3_oneLesson_42 (fun nw_23 hp_24 ws_26 hw_25 => ?_)
            obtain rfl : nw_23 = learnF k day a b w := hp_24
            have hw_25x : ws_26 = [(s, .inr (8, [.ref h, .ref sw, .ref sg, .int day])), (sw, .inl (V.2.2.1, 7, .inl (learnF k day a b w))), (h, .inr (4, [.ref hk, .ref hfw, .ref hfg, .ref hwb, .ref hld, .ref hte, .ref hpu, .int (nI n), .int hwa, .int (nI m), .ref hnu, .int hto])), (hk, .inl (V.2.2.1, 7, .inl k))] := hw_25.symm
            clear hw_25; subst hw_25x
            refine g_aload_n X dX3_oneLesson_45 rfl ?_
            refine g_iload_n X dX3_oneLesson_46 rfl ?_
            refine g_callVi X (c_X8_isWithin V s sw sg day (learnF k day a b w) h hk hfw hfg hwb hld hte hpu hnu n m hwa hto x (by omega)) mo_X8_isWithin kl_X3_21 [0, 1, 2] [1, 2, 3, 0] rfl (by decide +kernel) rfl rfl (fun _ => Nat.le_of_ble_eq_true rfl) 0 8 rfl rfl (As := [.int x]) (st := []) (cs' := (0, 0)) rfl rfl rfl rfl dX3_oneLesson_47 (fun r_32 u_28 hp_29 ws_31 hw_30 => ?_)
            obtain rfl : r_32 = wiF n x (learnF k day a b w) := hp_29
            have hw_30x : ws_31 = [(s, .inr (8, [.ref h, .ref sw, .ref sg, .int day])), (sw, .inl (V.2.2.1, 7, .inl (learnF k day a b w))), (h, .inr (4, [.ref hk, .ref hfw, .ref hfg, .ref hwb, .ref hld, .ref hte, .ref hpu, .int (nI n), .int hwa, .int (nI m), .ref hnu, .int hto])), (hk, .inl (V.2.2.1, 7, .inl k))] := hw_30.symm
            clear hw_30; subst hw_30x
            refine g_istore X (L' := [some (.ref s), some (.int x), some (.int (nI n)), some (.int (nI a)), some (.int (nI b)), some (.int (w b)), some (.int (wiF n x (learnF k day a b w)))]) dX3_oneLesson_50 (by decide) rfl rfl ?_
            refine g_aload_n X dX3_oneLesson_52 rfl ?_
            refine g_iload X dX3_oneLesson_53 rfl ?_
            refine g_iload X dX3_oneLesson_55 rfl ?_
            refine g_callVv X (c_X8_makeWrong V s sw sg day (learnF k day a b w) h b (w b) (by omega)) mo_X8_makeWrong kl_X3_52 [0, 1] [1, 2, 0, 0] rfl (by decide +kernel) rfl rfl (fun _ => Nat.le_of_ble_eq_true rfl) 0 8 rfl rfl (As := [.int (nI b), .int (w b)]) (st := []) (cs' := (0, 0)) rfl rfl rfl rfl dX3_oneLesson_57 (fun nw_33 hp_34 ws_36 hw_35 => ?_)
            obtain rfl : nw_33 = upd (learnF k day a b w) b (clampF (w b)) := hp_34
            have hw_35x : ws_36 = [(s, .inr (8, [.ref h, .ref sw, .ref sg, .int day])), (sw, .inl (V.2.2.1, 7, .inl (upd (learnF k day a b w) b (clampF (w b))))), (h, .inr (4, [.ref hk, .ref hfw, .ref hfg, .ref hwb, .ref hld, .ref hte, .ref hpu, .int (nI n), .int hwa, .int (nI m), .ref hnu, .int hto])), (hk, .inl (V.2.2.1, 7, .inl k))] := hw_35.symm
            clear hw_35; subst hw_35x
            refine g_arr 1 w rfl (back1 (hB b (by omega))) (ws' := [(s, .inr (8, [.ref h, .ref sw, .ref sg, .int day])), (sw, .inl (V.2.2.1, 7, .inl w)), (h, .inr (4, [.ref hk, .ref hfw, .ref hfg, .ref hwb, .ref hld, .ref hte, .ref hpu, .int (nI n), .int hwa, .int (nI m), .ref hnu, .int hto])), (hk, .inl (V.2.2.1, 7, .inl k))]) rfl ?_
            refine g_iload_n X dX3_oneLesson_60 rfl ?_
            refine g_iload X dX3_oneLesson_61 rfl ?_
            refine g_icmp_eq X 78 dX3_oneLesson_63 (by decide) (fun c63_38 => absurd c63_38 (feq (a := a) (b := b) (by omega) (by omega) (by omega))) (fun c63_38 => ?_)
            refine g_iload X dX3_oneLesson_66 rfl ?_
            refine g_if_eq X 78 dX3_oneLesson_68 (by decide) (fun c68_39 => ?_) (fun c68_39 => ?_)
            · refine g_iinc X (v := nI (b + 1)) (L' := [some (.ref s), some (.int x), some (.int (nI n)), some (.int (nI a)), some (.int (nI (b + 1))), some (.int (w b)), some (.int (wiF n x (learnF k day a b w)))]) dX3_oneLesson_78 rfl (nI_addk (by decide)) (by decide) rfl rfl ?_
              refine g_goto X 18 dX3_oneLesson_81 (by decide) ?_
              refine g_sub (L' := [some (.ref s), some (.int x), some (.int (nI n)), some (.int (nI a)), some (.int (nI (b + 1))), none, none]) ⟨rfl, ⟨rfl, ⟨rfl, ⟨rfl, ⟨rfl, trivial⟩⟩⟩⟩⟩ ?_
              exact ih18 (b + 1) (by omega) (fst1_n h2 (by rw [oneQ]; simp [c35_11, c35_11n, c63_38, c68_39]))
            · refine g_iload_n X dX3_oneLesson_71 rfl ?_
              refine g_iload X dX3_oneLesson_72 rfl ?_
              refine g_callNi X (c_X10_lessonNumber V a b) mo_X10_lessonNumber kl_X3_55 [] [0, 0, 0, 0] rfl (by decide +kernel) rfl rfl (fun _ => Nat.le_of_ble_eq_true rfl) (As := [.int (nI a), .int (nI b)]) (st := []) (cs' := (0, 0)) rfl rfl rfl dX3_oneLesson_74 (fun r_44 u_40 hp_41 ws_43 hw_42 => ?_)
              obtain rfl : r_44 = nI (10 * a + b) := hp_41
              have hw_42x : ws_43 = [(s, .inr (8, [.ref h, .ref sw, .ref sg, .int day])), (sw, .inl (V.2.2.1, 7, .inl w)), (h, .inr (4, [.ref hk, .ref hfw, .ref hfg, .ref hwb, .ref hld, .ref hte, .ref hpu, .int (nI n), .int hwa, .int (nI m), .ref hnu, .int hto])), (hk, .inl (V.2.2.1, 7, .inl k))] := hw_42.symm
              clear hw_42; subst hw_42x
              exact g_iret X E dX3_oneLesson_77 () (nI (10 * a + b)) (by rw [oneF, fst1_at (r := nI (10 * a + b)) h1 (by rw [oneP]; exact fst1_at h2 (by rw [oneQ]; simp [c35_11, c35_11n, c63_38, c68_39]) (by omega)) (by omega)]; rfl) rfl
      exact loop18_3 n 0 (by omega) rfl
  exact loop10 n 0 (by omega) rfl
