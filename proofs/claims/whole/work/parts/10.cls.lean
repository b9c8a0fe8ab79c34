set_option maxHeartbeats 4000000 in
set_option maxRecDepth 100000 in
theorem c_X10_at (V : gV) (q : Nat) (n : Nat) (f : Nat → Int32) (i : Nat) (hi : i < n) (hn : n < 2147483648) : Ki V yX10_at cX10_at 2 .int ({ frames := 0, cells := 0, slots := 0, locals := 0 }) [.ref q, .int (nI i)] [(q, .inl (V.2.2.1, n, .inl f))] (fun (r : Int32) (u : Unit) => r = f i) (fun u => [(q, .inl (V.2.2.1, n, .inl f))]) := by
  refine Ki.of [some (.ref q), some (.int (nI i))] (by decide) (Nat.le_of_ble_eq_true rfl) rfl rfl ?_
  intro Z X E
  have X : gX V Z RX10 cX10_at 2 ({ frames := 0, cells := 0, slots := 0, locals := 0 }) := X
  refine g_iload_n X dX10_at_0 rfl ?_
  refine g_if_lt X 16 dX10_at_1 (by decide) (fun c1_1 => absurd c1_1 (flt (a := i) (b := 0) (by omega) (by omega) (by omega))) (fun c1_1 => ?_)
  refine g_iload_n X dX10_at_4 rfl ?_
  refine g_aload_n X dX10_at_5 rfl ?_
  refine g_alen X 0 (nI n) rfl rfl dX10_at_6 ?_
  refine g_icmp_ge X 16 dX10_at_7 (by decide) (fun c7_2 => absurd c7_2 (fge (a := i) (b := n) (by omega) (by omega) (by omega))) (fun c7_2 => ?_)
  refine g_aload_n X dX10_at_10 rfl ?_
  refine g_iload_n X dX10_at_11 rfl ?_
  refine g_iald' X 0 rfl (i := i) rfl (by omega) (by omega) dX10_at_12 ?_
  refine g_goto X 17 dX10_at_13 (by decide) ?_
  exact g_iret X E dX10_at_17 () (f i) (by first | rfl | (simp [c1_1, c7_2]; done)) rfl

set_option maxHeartbeats 4000000 in
set_option maxRecDepth 100000 in
theorem c_X10_atg (V : gV) (q : Nat) (n : Nat) (f : Nat → Int32) (i : Int32) (hn : n < 2147483648) : Ki V yX10_at cX10_at 2 .int ({ frames := 0, cells := 0, slots := 0, locals := 0 }) [.ref q, .int i] [(q, .inl (V.2.2.1, n, .inl f))] (fun (r : Int32) (u : Unit) => r = atF n f i) (fun u => [(q, .inl (V.2.2.1, n, .inl f))]) := by
  refine Ki.of [some (.ref q), some (.int i)] (by decide) (Nat.le_of_ble_eq_true rfl) rfl rfl ?_
  intro Z X E
  have X : gX V Z RX10 cX10_at 2 ({ frames := 0, cells := 0, slots := 0, locals := 0 }) := X
  refine g_iload_n X dX10_at_0 rfl ?_
  refine g_if_lt X 16 dX10_at_1 (by decide) (fun c1_1 => ?_) (fun c1_1 => ?_)
  · refine g_iconst X (0) dX10_at_16 (by decide) ?_
    exact g_iret X E dX10_at_17 () 0 (by first | rfl | (simp [atF, c1_1]; done)) rfl
  · refine g_iload_n X dX10_at_4 rfl ?_
    refine g_aload_n X dX10_at_5 rfl ?_
    refine g_alen X 0 (nI n) rfl rfl dX10_at_6 ?_
    refine g_icmp_ge X 16 dX10_at_7 (by decide) (fun c7_2 => ?_) (fun c7_2 => ?_)
    · refine g_iconst X (0) dX10_at_16 (by decide) ?_
      exact g_iret X E dX10_at_17 () 0 (by first | rfl | (simp [atF, c1_1, c7_2]; done)) rfl
    · refine g_aload_n X dX10_at_10 rfl ?_
      refine g_iload_n X dX10_at_11 rfl ?_
      refine g_iald X 0 rfl (vpin_of c1_1 c7_2 hn) dX10_at_12 ?_
      refine g_goto X 17 dX10_at_13 (by decide) ?_
      exact g_iret X E dX10_at_17 () (f i.toNatClampNeg) (by first | rfl | (simp [atF, c1_1, c7_2]; done)) rfl

set_option maxHeartbeats 4000000 in
set_option maxRecDepth 100000 in
theorem c_X10_put (V : gV) (q : Nat) (n : Nat) (f : Nat → Int32) (i : Nat) (x : Int32) (hi : i < n) (hn : n < 2147483648) : Kv V yX10_put cX10_put 3 ({ frames := 0, cells := 0, slots := 0, locals := 0 }) [.ref q, .int (nI i), .int x] [(q, .inl (V.2.2.1, n, .inl f))] (fun u : (Nat → Int32) => u = upd f i x) (fun u => [(q, .inl (V.2.2.1, n, .inl u))]) := by
  refine Kv.of [some (.ref q), some (.int (nI i)), some (.int x)] (by decide) (Nat.le_of_ble_eq_true rfl) rfl rfl ?_
  intro Z X E
  have X : gX V Z RX10 cX10_put 3 ({ frames := 0, cells := 0, slots := 0, locals := 0 }) := X
  refine g_iload_n X dX10_put_0 rfl ?_
  refine g_if_lt X 14 dX10_put_1 (by decide) (fun c1_1 => absurd c1_1 (flt (a := i) (b := 0) (by omega) (by omega) (by omega))) (fun c1_1 => ?_)
  refine g_iload_n X dX10_put_4 rfl ?_
  refine g_aload_n X dX10_put_5 rfl ?_
  refine g_alen X 0 (nI n) rfl rfl dX10_put_6 ?_
  refine g_icmp_ge X 14 dX10_put_7 (by decide) (fun c7_2 => absurd c7_2 (fge (a := i) (b := n) (by omega) (by omega) (by omega))) (fun c7_2 => ?_)
  refine g_aload_n X dX10_put_10 rfl ?_
  refine g_iload_n X dX10_put_11 rfl ?_
  refine g_iload_n X dX10_put_12 rfl ?_
  refine g_iast' X 0 rfl (i := i) rfl (by omega) (by omega) (ws' := [(q, .inl (V.2.2.1, n, .inl (upd f i x)))]) rfl dX10_put_13 ?_
  exact g_vret X E dX10_put_14 (upd f i x) (by first | rfl | (simp [c1_1, c7_2]; done)) rfl

set_option maxHeartbeats 4000000 in
set_option maxRecDepth 100000 in
theorem c_X10_lessonNumber (V : gV) (a : Nat) (b : Nat)  : Ki V yX10_lessonNumber cX10_lessonNumber 2 .int ({ frames := 0, cells := 0, slots := 0, locals := 0 }) [.int (nI a), .int (nI b)] [] (fun (r : Int32) (u : Unit) => r = nI (10 * a + b)) (fun u => []) := by
  refine Ki.of [some (.int (nI a)), some (.int (nI b))] (by decide) (Nat.le_of_ble_eq_true rfl) rfl rfl ?_
  intro Z X E
  have X : gX V Z RX10 cX10_lessonNumber 2 ({ frames := 0, cells := 0, slots := 0, locals := 0 }) := X
  refine g_bipush X (10) dX10_lessonNumber_0 (by decide) ?_
  refine g_iload_n X dX10_lessonNumber_2 rfl ?_
  refine g_imul X dX10_lessonNumber_3 ?_
  refine g_toe (x' := nI (10 * a)) (nI_mul' rfl rfl) ?_
  refine g_iload_n X dX10_lessonNumber_4 rfl ?_
  refine g_iadd X dX10_lessonNumber_5 ?_
  refine g_toe (x' := nI (10 * a + b)) (nI_add' rfl rfl) ?_
  exact g_iret X E dX10_lessonNumber_6 () (nI (10 * a + b)) (by first | rfl | (simp []; done)) rfl

set_option maxHeartbeats 4000000 in
set_option maxRecDepth 100000 in
theorem c_X4_hasClock (V : gV) (h : Nat) (hk : Nat) (hfw : Nat) (hfg : Nat) (hwb : Nat) (hld : Nat) (hte : Nat) (hpu : Nat) (hnu : Nat) (n : Nat) (m : Nat) (hwa : Int32) (hto : Int32) (c : Int32) (hn : n ≤ 7) : Ki V yX4_hasClock cX4_hasClock 2 .boolean ({ frames := 0, cells := 0, slots := 0, locals := 0 }) [.ref h, .int c] [(h, .inr (4, [.ref hk, .ref hfw, .ref hfg, .ref hwb, .ref hld, .ref hte, .ref hpu, .int (nI n), .int hwa, .int (nI m), .ref hnu, .int hto]))] (fun (r : Int32) (u : Unit) => r = if c < 0 then 0 else if nI n ≤ c then 0 else 1) (fun u => [(h, .inr (4, [.ref hk, .ref hfw, .ref hfg, .ref hwb, .ref hld, .ref hte, .ref hpu, .int (nI n), .int hwa, .int (nI m), .ref hnu, .int hto]))]) := by
  refine Ki.of [some (.ref h), some (.int c)] (by decide) (Nat.le_of_ble_eq_true rfl) rfl rfl ?_
  intro Z X E
  have X : gX V Z RX4 cX4_hasClock 2 ({ frames := 0, cells := 0, slots := 0, locals := 0 }) := X
  refine g_iload_n X dX4_hasClock_0 rfl ?_
  refine g_if_lt X 16 dX4_hasClock_1 (by decide) (fun c1_1 => ?_) (fun c1_1 => ?_)
  · refine g_iconst X (0) dX4_hasClock_16 (by decide) ?_
    exact g_zret X E dX4_hasClock_17 () 0 rfl (by first | rfl | (simp [c1_1]; done)) rfl
  · refine g_iload_n X dX4_hasClock_4 rfl ?_
    refine g_aload_n X dX4_hasClock_5 rfl ?_
    refine g_get X uwX4 0 rfl rfl 7 (by decide) kl_X4_33 rfl rfl gwX4 dX4_hasClock_6 ?_
    refine g_icmp_ge X 16 dX4_hasClock_9 (by decide) (fun c9_2 => ?_) (fun c9_2 => ?_)
    · refine g_iconst X (0) dX4_hasClock_16 (by decide) ?_
      exact g_zret X E dX4_hasClock_17 () 0 rfl (by first | rfl | (simp [c1_1, c9_2]; done)) rfl
    · refine g_iconst X (1) dX4_hasClock_12 (by decide) ?_
      refine g_goto X 17 dX4_hasClock_13 (by decide) ?_
      exact g_zret X E dX4_hasClock_17 () 1 rfl (by first | rfl | (simp [c1_1, c9_2]; done)) rfl

set_option maxHeartbeats 4000000 in
set_option maxRecDepth 100000 in
theorem c_X8_wrongOf (V : gV) (s : Nat) (sw : Nat) (sg : Nat) (day : Int32) (w : Nat → Int32) (h : Nat) (c : Nat) (hc : c < 7) : Ki V yX8_wrongOf cX8_wrongOf 2 .int ({ frames := 1, cells := 0, slots := 0, locals := 21 }) [.ref s, .int (nI c)] [(s, .inr (8, [.ref h, .ref sw, .ref sg, .int day])), (sw, .inl (V.2.2.1, 7, .inl w))] (fun (r : Int32) (u : Unit) => r = w c) (fun u => [(s, .inr (8, [.ref h, .ref sw, .ref sg, .int day])), (sw, .inl (V.2.2.1, 7, .inl w))]) := by
  refine Ki.of [some (.ref s), some (.int (nI c))] (by decide) (Nat.le_of_ble_eq_true rfl) rfl rfl ?_
  intro Z X E
  have X : gX V Z RX8 cX8_wrongOf 2 ({ frames := 1, cells := 0, slots := 0, locals := 21 }) := X
  refine g_aload_n X dX8_wrongOf_0 rfl ?_
  refine g_get X uwX8 0 rfl rfl 1 (by decide) kl_X8_9 rfl rfl gwX8 dX8_wrongOf_1 ?_
  refine g_iload_n X dX8_wrongOf_4 rfl ?_
  refine g_callNi X (c_X10_at V sw 7 w c (by omega) (by decide)) mo_X10_at kl_X8_31 [1] rfl rfl (fun _ => Nat.le_of_ble_eq_true rfl) (As := [.ref sw, .int (nI c)]) (st := []) (cs' := (0, 0)) rfl rfl rfl dX8_wrongOf_5 (fun r_5 u_1 hp_2 ws_4 hw_3 => ?_)
  obtain rfl : r_5 = w c := hp_2
  have hw_3 : ws_4 = [(s, .inr (8, [.ref h, .ref sw, .ref sg, .int day])), (sw, .inl (V.2.2.1, 7, .inl w))] := hw_3.symm
  subst hw_3
  exact g_iret X E dX8_wrongOf_8 () (w c) (by first | rfl | (simp []; done)) rfl

set_option maxHeartbeats 4000000 in
set_option maxRecDepth 100000 in
theorem c_X8_gainOf (V : gV) (s : Nat) (sw : Nat) (sg : Nat) (day : Int32) (g : Nat → Int32) (h : Nat) (c : Nat) (hc : c < 7) : Ki V yX8_gainOf cX8_gainOf 2 .int ({ frames := 1, cells := 0, slots := 0, locals := 21 }) [.ref s, .int (nI c)] [(s, .inr (8, [.ref h, .ref sw, .ref sg, .int day])), (sg, .inl (V.2.2.1, 7, .inl g))] (fun (r : Int32) (u : Unit) => r = g c) (fun u => [(s, .inr (8, [.ref h, .ref sw, .ref sg, .int day])), (sg, .inl (V.2.2.1, 7, .inl g))]) := by
  refine Ki.of [some (.ref s), some (.int (nI c))] (by decide) (Nat.le_of_ble_eq_true rfl) rfl rfl ?_
  intro Z X E
  have X : gX V Z RX8 cX8_gainOf 2 ({ frames := 1, cells := 0, slots := 0, locals := 21 }) := X
  refine g_aload_n X dX8_gainOf_0 rfl ?_
  refine g_get X uwX8 0 rfl rfl 2 (by decide) kl_X8_15 rfl rfl gwX8 dX8_gainOf_1 ?_
  refine g_iload_n X dX8_gainOf_4 rfl ?_
  refine g_callNi X (c_X10_at V sg 7 g c (by omega) (by decide)) mo_X10_at kl_X8_31 [1] rfl rfl (fun _ => Nat.le_of_ble_eq_true rfl) (As := [.ref sg, .int (nI c)]) (st := []) (cs' := (0, 0)) rfl rfl rfl dX8_gainOf_5 (fun r_5 u_1 hp_2 ws_4 hw_3 => ?_)
  obtain rfl : r_5 = g c := hp_2
  have hw_3 : ws_4 = [(s, .inr (8, [.ref h, .ref sw, .ref sg, .int day])), (sg, .inl (V.2.2.1, 7, .inl g))] := hw_3.symm
  subst hw_3
  exact g_iret X E dX8_gainOf_8 () (g c) (by first | rfl | (simp []; done)) rfl

set_option maxHeartbeats 4000000 in
set_option maxRecDepth 100000 in
theorem c_X8_makeWrong (V : gV) (s : Nat) (sw : Nat) (sg : Nat) (day : Int32) (w : Nat → Int32) (h : Nat) (c : Nat) (x : Int32) (hc : c < 7) : Kv V yX8_makeWrong cX8_makeWrong 3 ({ frames := 1, cells := 0, slots := 0, locals := 22 }) [.ref s, .int (nI c), .int x] [(s, .inr (8, [.ref h, .ref sw, .ref sg, .int day])), (sw, .inl (V.2.2.1, 7, .inl w))] (fun u : (Nat → Int32) => u = upd w c (clampF x)) (fun u => [(s, .inr (8, [.ref h, .ref sw, .ref sg, .int day])), (sw, .inl (V.2.2.1, 7, .inl u))]) := by
  refine Kv.of [some (.ref s), some (.int (nI c)), some (.int x)] (by decide) (Nat.le_of_ble_eq_true rfl) rfl rfl ?_
  intro Z X E
  have X : gX V Z RX8 cX8_makeWrong 3 ({ frames := 1, cells := 0, slots := 0, locals := 22 }) := X
  refine g_aload_n X dX8_makeWrong_0 rfl ?_
  refine g_get X uwX8 0 rfl rfl 1 (by decide) kl_X8_9 rfl rfl gwX8 dX8_makeWrong_1 ?_
  refine g_iload_n X dX8_makeWrong_4 rfl ?_
  refine g_sipush X (-600) dX8_makeWrong_5 (by decide) ?_
  refine g_sipush X (600) dX8_makeWrong_8 (by decide) ?_
  refine g_iload_n X dX8_makeWrong_11 rfl ?_
  refine g_mmin X kl_X8_42 dX8_makeWrong_12 (by decide) (Nat.le_of_ble_eq_true rfl) (by decide) (by decide) ?_
  refine g_mmax X kl_X8_48 dX8_makeWrong_15 (by decide) (Nat.le_of_ble_eq_true rfl) (by decide) (by decide) ?_
  refine g_callNv X (c_X10_put V sw 7 w c (maxF (-600) (minF 600 x)) (by omega) (by decide)) mo_X10_put kl_X8_35 [1] rfl rfl (fun _ => Nat.le_of_ble_eq_true rfl) (As := [.ref sw, .int (nI c), .int (maxF (-600) (minF 600 x))]) (st := []) (cs' := (0, 0)) rfl rfl rfl dX8_makeWrong_18 (fun nf_1 hp_2 ws_4 hw_3 => ?_)
  obtain rfl : nf_1 = upd w c (maxF (-600) (minF 600 x)) := hp_2
  have hw_3 : ws_4 = [(s, .inr (8, [.ref h, .ref sw, .ref sg, .int day])), (sw, .inl (V.2.2.1, 7, .inl (upd w c (maxF (-600) (minF 600 x)))))] := hw_3.symm
  subst hw_3
  exact g_vret X E dX8_makeWrong_21 (upd w c (maxF (-600) (minF 600 x))) (by first | rfl | (simp []; done)) rfl

set_option maxHeartbeats 4000000 in
set_option maxRecDepth 100000 in
theorem c_X8_canLearn (V : gV) (s : Nat) (sw : Nat) (sg : Nat) (day : Int32) (h : Nat) (hk : Nat) (hfw : Nat) (hfg : Nat) (hwb : Nat) (hld : Nat) (hte : Nat) (hpu : Nat) (hnu : Nat) (n : Nat) (m : Nat) (hwa : Int32) (hto : Int32) (k : Nat → Int32) (b : Nat) (hb : b < 7) : Ki V yX8_canLearn cX8_canLearn 3 .boolean ({ frames := 1, cells := 0, slots := 0, locals := 21 }) [.ref s, .int (nI b)] [(s, .inr (8, [.ref h, .ref sw, .ref sg, .int day])), (h, .inr (4, [.ref hk, .ref hfw, .ref hfg, .ref hwb, .ref hld, .ref hte, .ref hpu, .int (nI n), .int hwa, .int (nI m), .ref hnu, .int hto])), (hk, .inl (V.2.2.1, 7, .inl k))] (fun (r : Int32) (u : Unit) => r = canF (k b) day) (fun u => [(s, .inr (8, [.ref h, .ref sw, .ref sg, .int day])), (h, .inr (4, [.ref hk, .ref hfw, .ref hfg, .ref hwb, .ref hld, .ref hte, .ref hpu, .int (nI n), .int hwa, .int (nI m), .ref hnu, .int hto])), (hk, .inl (V.2.2.1, 7, .inl k))]) := by
  refine Ki.of [some (.ref s), some (.int (nI b)), none] (by decide) (Nat.le_of_ble_eq_true rfl) rfl rfl ?_
  intro Z X E
  have X : gX V Z RX8 cX8_canLearn 3 ({ frames := 1, cells := 0, slots := 0, locals := 21 }) := X
  refine g_aload_n X dX8_canLearn_0 rfl ?_
  refine g_get X uwX8 0 rfl rfl 0 (by decide) kl_X8_22 rfl rfl gwX8 dX8_canLearn_1 ?_
  refine g_getN X uwX4 1 rfl rfl 0 (by decide) kl_X8_65 rfl rfl gwX4 dX8_canLearn_4 ?_
  refine g_iload_n X dX8_canLearn_7 rfl ?_
  refine g_callNi X (c_X10_at V hk 7 k b (by omega) (by decide)) mo_X10_at kl_X8_31 [2] rfl rfl (fun _ => Nat.le_of_ble_eq_true rfl) (As := [.ref hk, .int (nI b)]) (st := []) (cs' := (0, 0)) rfl rfl rfl dX8_canLearn_8 (fun r_5 u_1 hp_2 ws_4 hw_3 => ?_)
  obtain rfl : r_5 = k b := hp_2
  have hw_3 : ws_4 = [(s, .inr (8, [.ref h, .ref sw, .ref sg, .int day])), (h, .inr (4, [.ref hk, .ref hfw, .ref hfg, .ref hwb, .ref hld, .ref hte, .ref hpu, .int (nI n), .int hwa, .int (nI m), .ref hnu, .int hto])), (hk, .inl (V.2.2.1, 7, .inl k))] := hw_3.symm
  subst hw_3
  refine g_istore_n X (L' := [some (.ref s), some (.int (nI b)), some (.int (k b))]) dX8_canLearn_11 (by decide) rfl rfl ?_
  refine g_iload_n X dX8_canLearn_12 rfl ?_
  refine g_iconst X (3) dX8_canLearn_13 (by decide) ?_
  refine g_icmp_eq X 38 dX8_canLearn_14 (by decide) (fun c14_6 => ?_) (fun c14_6 => ?_)
  · refine g_iconst X (0) dX8_canLearn_38 (by decide) ?_
    exact g_zret X E dX8_canLearn_39 () 0 rfl (by first | rfl | (simp [canF, c14_6]; done)) rfl
  · refine g_iload_n X dX8_canLearn_17 rfl ?_
    refine g_iconst X (4) dX8_canLearn_18 (by decide) ?_
    refine g_icmp_ne X 34 dX8_canLearn_19 (by decide) (fun c19_7 => ?_) (fun c19_7 => ?_)
    · refine g_iconst X (1) dX8_canLearn_34 (by decide) ?_
      refine g_goto X 39 dX8_canLearn_35 (by decide) ?_
      exact g_zret X E dX8_canLearn_39 () 1 rfl (by first | rfl | (simp [canF, c14_6, c19_7]; done)) rfl
    · refine g_aload_n X dX8_canLearn_22 rfl ?_
      refine g_get X uwX8 0 rfl rfl 3 (by decide) kl_X8_18 rfl rfl gwX8 dX8_canLearn_23 ?_
      refine g_bipush X (7) dX8_canLearn_26 (by decide) ?_
      refine g_rem X dX8_canLearn_28 (by decide) ?_
      refine g_bipush X (6) dX8_canLearn_29 (by decide) ?_
      refine g_icmp_ne X 38 dX8_canLearn_31 (by decide) (fun c31_8 => ?_) (fun c31_8 => ?_)
      · refine g_iconst X (0) dX8_canLearn_38 (by decide) ?_
        exact g_zret X E dX8_canLearn_39 () 0 rfl (by first | rfl | (simp [canF, c14_6, c19_7, c31_8]; done)) rfl
      · refine g_iconst X (1) dX8_canLearn_34 (by decide) ?_
        refine g_goto X 39 dX8_canLearn_35 (by decide) ?_
        exact g_zret X E dX8_canLearn_39 () 1 rfl (by first | rfl | (simp [canF, c14_6, c19_7, c31_8]; done)) rfl

set_option maxHeartbeats 4000000 in
set_option maxRecDepth 100000 in
theorem c_X8_wrongWhenTaught (V : gV) (s : Nat) (sw : Nat) (sg : Nat) (day : Int32) (w : Nat → Int32) (h : Nat) (hk : Nat) (hfw : Nat) (hfg : Nat) (hwb : Nat) (hld : Nat) (hte : Nat) (hpu : Nat) (hnu : Nat) (n : Nat) (m : Nat) (hwa : Int32) (hto : Int32) (k : Nat → Int32) (a : Nat) (b : Nat) (ha : a < 7) (hb : b < 7) : Ki V yX8_wrongWhenTaught cX8_wrongWhenTaught 5 .int ({ frames := 1, cells := 0, slots := 0, locals := 21 }) [.ref s, .int (nI a), .int (nI b)] [(s, .inr (8, [.ref h, .ref sw, .ref sg, .int day])), (sw, .inl (V.2.2.1, 7, .inl w)), (h, .inr (4, [.ref hk, .ref hfw, .ref hfg, .ref hwb, .ref hld, .ref hte, .ref hpu, .int (nI n), .int hwa, .int (nI m), .ref hnu, .int hto])), (hk, .inl (V.2.2.1, 7, .inl k))] (fun (r : Int32) (u : Unit) => r = wwF (k b) (w a) (w b)) (fun u => [(s, .inr (8, [.ref h, .ref sw, .ref sg, .int day])), (sw, .inl (V.2.2.1, 7, .inl w)), (h, .inr (4, [.ref hk, .ref hfw, .ref hfg, .ref hwb, .ref hld, .ref hte, .ref hpu, .int (nI n), .int hwa, .int (nI m), .ref hnu, .int hto])), (hk, .inl (V.2.2.1, 7, .inl k))]) := by
  refine Ki.of [some (.ref s), some (.int (nI a)), some (.int (nI b)), none, none] (by decide) (Nat.le_of_ble_eq_true rfl) rfl rfl ?_
  intro Z X E
  have X : gX V Z RX8 cX8_wrongWhenTaught 5 ({ frames := 1, cells := 0, slots := 0, locals := 21 }) := X
  refine g_aload_n X dX8_wrongWhenTaught_0 rfl ?_
  refine g_get X uwX8 0 rfl rfl 1 (by decide) kl_X8_9 rfl rfl gwX8 dX8_wrongWhenTaught_1 ?_
  refine g_iload_n X dX8_wrongWhenTaught_4 rfl ?_
  refine g_callNi X (c_X10_at V sw 7 w a (by omega) (by decide)) mo_X10_at kl_X8_31 [1] rfl rfl (fun _ => Nat.le_of_ble_eq_true rfl) (As := [.ref sw, .int (nI a)]) (st := []) (cs' := (0, 0)) rfl rfl rfl dX8_wrongWhenTaught_5 (fun r_5 u_1 hp_2 ws_4 hw_3 => ?_)
  obtain rfl : r_5 = w a := hp_2
  have hw_3 : ws_4 = [(s, .inr (8, [.ref h, .ref sw, .ref sg, .int day])), (sw, .inl (V.2.2.1, 7, .inl w)), (h, .inr (4, [.ref hk, .ref hfw, .ref hfg, .ref hwb, .ref hld, .ref hte, .ref hpu, .int (nI n), .int hwa, .int (nI m), .ref hnu, .int hto])), (hk, .inl (V.2.2.1, 7, .inl k))] := hw_3.symm
  subst hw_3
  refine g_istore_n X (L' := [some (.ref s), some (.int (nI a)), some (.int (nI b)), some (.int (w a)), none]) dX8_wrongWhenTaught_8 (by decide) rfl rfl ?_
  refine g_aload_n X dX8_wrongWhenTaught_9 rfl ?_
  refine g_get X uwX8 0 rfl rfl 1 (by decide) kl_X8_9 rfl rfl gwX8 dX8_wrongWhenTaught_10 ?_
  refine g_iload_n X dX8_wrongWhenTaught_13 rfl ?_
  refine g_callNi X (c_X10_at V sw 7 w b (by omega) (by decide)) mo_X10_at kl_X8_31 [1] rfl rfl (fun _ => Nat.le_of_ble_eq_true rfl) (As := [.ref sw, .int (nI b)]) (st := []) (cs' := (0, 0)) rfl rfl rfl dX8_wrongWhenTaught_14 (fun r_10 u_6 hp_7 ws_9 hw_8 => ?_)
  obtain rfl : r_10 = w b := hp_7
  have hw_8 : ws_9 = [(s, .inr (8, [.ref h, .ref sw, .ref sg, .int day])), (sw, .inl (V.2.2.1, 7, .inl w)), (h, .inr (4, [.ref hk, .ref hfw, .ref hfg, .ref hwb, .ref hld, .ref hte, .ref hpu, .int (nI n), .int hwa, .int (nI m), .ref hnu, .int hto])), (hk, .inl (V.2.2.1, 7, .inl k))] := hw_8.symm
  subst hw_8
  refine g_istore X (L' := [some (.ref s), some (.int (nI a)), some (.int (nI b)), some (.int (w a)), some (.int (w b))]) dX8_wrongWhenTaught_17 (by decide) rfl rfl ?_
  refine g_aload_n X dX8_wrongWhenTaught_19 rfl ?_
  refine g_get X uwX8 0 rfl rfl 0 (by decide) kl_X8_22 rfl rfl gwX8 dX8_wrongWhenTaught_20 ?_
  refine g_getN X uwX4 2 rfl rfl 0 (by decide) kl_X8_65 rfl rfl gwX4 dX8_wrongWhenTaught_23 ?_
  refine g_iload_n X dX8_wrongWhenTaught_26 rfl ?_
  refine g_callNi X (c_X10_at V hk 7 k b (by omega) (by decide)) mo_X10_at kl_X8_31 [3] rfl rfl (fun _ => Nat.le_of_ble_eq_true rfl) (As := [.ref hk, .int (nI b)]) (st := []) (cs' := (0, 0)) rfl rfl rfl dX8_wrongWhenTaught_27 (fun r_15 u_11 hp_12 ws_14 hw_13 => ?_)
  obtain rfl : r_15 = k b := hp_12
  have hw_13 : ws_14 = [(s, .inr (8, [.ref h, .ref sw, .ref sg, .int day])), (sw, .inl (V.2.2.1, 7, .inl w)), (h, .inr (4, [.ref hk, .ref hfw, .ref hfg, .ref hwb, .ref hld, .ref hte, .ref hpu, .int (nI n), .int hwa, .int (nI m), .ref hnu, .int hto])), (hk, .inl (V.2.2.1, 7, .inl k))] := hw_13.symm
  subst hw_13
  by_cases c30_16 : k b = 1
  · refine g_lookup X 56 dX8_wrongWhenTaught_30 (off := 26) (by decide) (by rw [c30_16]; decide) (by decide) ?_
    refine g_iload X dX8_wrongWhenTaught_56 rfl ?_
    refine g_iload_n X dX8_wrongWhenTaught_58 rfl ?_
    refine g_iload X dX8_wrongWhenTaught_59 rfl ?_
    refine g_isub X dX8_wrongWhenTaught_61 ?_
    refine g_iconst X (2) dX8_wrongWhenTaught_62 (by decide) ?_
    refine g_idiv X dX8_wrongWhenTaught_63 (by decide) ?_
    refine g_iadd X dX8_wrongWhenTaught_64 ?_
    exact g_iret X E dX8_wrongWhenTaught_65 () ((w b) + (((w a) - (w b)) / 2)) (by first | rfl | (simp [wwF, c30_16]; done)) rfl
  by_cases c30_17 : k b = 2
  · refine g_lookup X 66 dX8_wrongWhenTaught_30 (off := 36) (by decide) (by rw [c30_17]; decide) (by decide) ?_
    refine g_sipush X (600) dX8_wrongWhenTaught_66 (by decide) ?_
    refine g_iload_n X dX8_wrongWhenTaught_69 rfl ?_
    refine g_iconst X (1) dX8_wrongWhenTaught_70 (by decide) ?_
    refine g_iadd X dX8_wrongWhenTaught_71 ?_
    refine g_mmin X kl_X8_42 dX8_wrongWhenTaught_72 (by decide) (Nat.le_of_ble_eq_true rfl) (by decide) (by decide) ?_
    exact g_iret X E dX8_wrongWhenTaught_75 () (minF 600 ((w a) + 1)) (by first | rfl | (simp [wwF, c30_16, c30_17]; done)) rfl
  refine g_lookup X 76 dX8_wrongWhenTaught_30 (off := 46) (by decide) (by have h0 := toInt_ne c30_16 (z := 1) (by decide); have h1 := toInt_ne c30_17 (z := 2) (by decide); simp [Op.lookupswitch.offset, h0, h1]) (by decide) ?_
  refine g_iload_n X dX8_wrongWhenTaught_76 rfl ?_
  exact g_iret X E dX8_wrongWhenTaught_77 () (w a) (by first | rfl | (simp [wwF, c30_16, c30_17]; done)) rfl

set_option maxHeartbeats 4000000 in
set_option maxRecDepth 100000 in
theorem c_X8_learn (V : gV) (s : Nat) (sw : Nat) (sg : Nat) (day : Int32) (w : Nat → Int32) (h : Nat) (hk : Nat) (hfw : Nat) (hfg : Nat) (hwb : Nat) (hld : Nat) (hte : Nat) (hpu : Nat) (hnu : Nat) (n : Nat) (m : Nat) (hwa : Int32) (hto : Int32) (k : Nat → Int32) (a : Nat) (b : Nat) (ha : a < 7) (hb : b < 7) : Kv V yX8_learn cX8_learn 3 ({ frames := 2, cells := 0, slots := 0, locals := 45 }) [.ref s, .int (nI a), .int (nI b)] [(s, .inr (8, [.ref h, .ref sw, .ref sg, .int day])), (sw, .inl (V.2.2.1, 7, .inl w)), (h, .inr (4, [.ref hk, .ref hfw, .ref hfg, .ref hwb, .ref hld, .ref hte, .ref hpu, .int (nI n), .int hwa, .int (nI m), .ref hnu, .int hto])), (hk, .inl (V.2.2.1, 7, .inl k))] (fun u : (Nat → Int32) => u = learnF k day a b w) (fun u => [(s, .inr (8, [.ref h, .ref sw, .ref sg, .int day])), (sw, .inl (V.2.2.1, 7, .inl u)), (h, .inr (4, [.ref hk, .ref hfw, .ref hfg, .ref hwb, .ref hld, .ref hte, .ref hpu, .int (nI n), .int hwa, .int (nI m), .ref hnu, .int hto])), (hk, .inl (V.2.2.1, 7, .inl k))]) := by
  refine Kv.of [some (.ref s), some (.int (nI a)), some (.int (nI b))] (by decide) (Nat.le_of_ble_eq_true rfl) rfl rfl ?_
  intro Z X E
  have X : gX V Z RX8 cX8_learn 3 ({ frames := 2, cells := 0, slots := 0, locals := 45 }) := X
  refine g_aload_n X dX8_learn_0 rfl ?_
  refine g_iload_n X dX8_learn_1 rfl ?_
  refine g_callVi X (c_X8_canLearn V s sw sg day h hk hfw hfg hwb hld hte hpu hnu n m hwa hto k b (by omega)) mo_X8_canLearn kl_X8_68 [0, 2, 3] rfl rfl (fun _ => Nat.le_of_ble_eq_true rfl) 0 8 rfl rfl (As := [.int (nI b)]) (st := []) (cs' := (0, 0)) rfl rfl rfl rfl dX8_learn_2 (fun r_5 u_1 hp_2 ws_4 hw_3 => ?_)
  obtain rfl : r_5 = canF (k b) day := hp_2
  have hw_3 : ws_4 = [(s, .inr (8, [.ref h, .ref sw, .ref sg, .int day])), (sw, .inl (V.2.2.1, 7, .inl w)), (h, .inr (4, [.ref hk, .ref hfw, .ref hfg, .ref hwb, .ref hld, .ref hte, .ref hpu, .int (nI n), .int hwa, .int (nI m), .ref hnu, .int hto])), (hk, .inl (V.2.2.1, 7, .inl k))] := hw_3.symm
  subst hw_3
  refine g_if_eq X 19 dX8_learn_5 (by decide) (fun c5_6 => ?_) (fun c5_6 => ?_)
  · exact g_vret X E dX8_learn_19 w (by first | rfl | (simp [learnF, c5_6]; done)) rfl
  · refine g_aload_n X dX8_learn_8 rfl ?_
    refine g_iload_n X dX8_learn_9 rfl ?_
    refine g_aload_n X dX8_learn_10 rfl ?_
    refine g_iload_n X dX8_learn_11 rfl ?_
    refine g_iload_n X dX8_learn_12 rfl ?_
    refine g_callVi X (c_X8_wrongWhenTaught V s sw sg day w h hk hfw hfg hwb hld hte hpu hnu n m hwa hto k a b (by omega) (by omega)) mo_X8_wrongWhenTaught kl_X8_72 [0, 1, 2, 3] rfl rfl (fun _ => Nat.le_of_ble_eq_true rfl) 0 8 rfl rfl (As := [.int (nI a), .int (nI b)]) (st := [.int (nI b), .ref s]) (cs' := (0, 0)) rfl rfl rfl rfl dX8_learn_13 (fun r_11 u_7 hp_8 ws_10 hw_9 => ?_)
    obtain rfl : r_11 = wwF (k b) (w a) (w b) := hp_8
    have hw_9 : ws_10 = [(s, .inr (8, [.ref h, .ref sw, .ref sg, .int day])), (sw, .inl (V.2.2.1, 7, .inl w)), (h, .inr (4, [.ref hk, .ref hfw, .ref hfg, .ref hwb, .ref hld, .ref hte, .ref hpu, .int (nI n), .int hwa, .int (nI m), .ref hnu, .int hto])), (hk, .inl (V.2.2.1, 7, .inl k))] := hw_9.symm
    subst hw_9
    refine g_callVv X (c_X8_makeWrong V s sw sg day w h b (wwF (k b) (w a) (w b)) (by omega)) mo_X8_makeWrong kl_X8_58 [0, 1] rfl rfl (fun _ => Nat.le_of_ble_eq_true rfl) 0 8 rfl rfl (As := [.int (nI b), .int (wwF (k b) (w a) (w b))]) (st := []) (cs' := (0, 0)) rfl rfl rfl rfl dX8_learn_16 (fun nw_12 hp_13 ws_15 hw_14 => ?_)
    obtain rfl : nw_12 = upd w b (clampF (wwF (k b) (w a) (w b))) := hp_13
    have hw_14 : ws_15 = [(s, .inr (8, [.ref h, .ref sw, .ref sg, .int day])), (sw, .inl (V.2.2.1, 7, .inl (upd w b (clampF (wwF (k b) (w a) (w b)))))), (h, .inr (4, [.ref hk, .ref hfw, .ref hfg, .ref hwb, .ref hld, .ref hte, .ref hpu, .int (nI n), .int hwa, .int (nI m), .ref hnu, .int hto])), (hk, .inl (V.2.2.1, 7, .inl k))] := hw_14.symm
    subst hw_14
    exact g_vret X E dX8_learn_19 (upd w b (clampF (wwF (k b) (w a) (w b)))) (by first | rfl | (simp [learnF, c5_6]; done)) rfl

set_option maxHeartbeats 4000000 in
set_option maxRecDepth 100000 in
theorem c_X8_minutesApart (V : gV) (s : Nat) (sw : Nat) (sg : Nat) (day : Int32) (w : Nat → Int32) (h : Nat) (a : Nat) (b : Nat) (ha : a < 7) (hb : b < 7) : Ki V yX8_minutesApart cX8_minutesApart 3 .int ({ frames := 1, cells := 0, slots := 0, locals := 21 }) [.ref s, .int (nI a), .int (nI b)] [(s, .inr (8, [.ref h, .ref sw, .ref sg, .int day])), (sw, .inl (V.2.2.1, 7, .inl w))] (fun (r : Int32) (u : Unit) => r = apartF w a b) (fun u => [(s, .inr (8, [.ref h, .ref sw, .ref sg, .int day])), (sw, .inl (V.2.2.1, 7, .inl w))]) := by
  refine Ki.of [some (.ref s), some (.int (nI a)), some (.int (nI b))] (by decide) (Nat.le_of_ble_eq_true rfl) rfl rfl ?_
  intro Z X E
  have X : gX V Z RX8 cX8_minutesApart 3 ({ frames := 1, cells := 0, slots := 0, locals := 21 }) := X
  refine g_aload_n X dX8_minutesApart_0 rfl ?_
  refine g_get X uwX8 0 rfl rfl 1 (by decide) kl_X8_9 rfl rfl gwX8 dX8_minutesApart_1 ?_
  refine g_iload_n X dX8_minutesApart_4 rfl ?_
  refine g_callNi X (c_X10_at V sw 7 w a (by omega) (by decide)) mo_X10_at kl_X8_31 [1] rfl rfl (fun _ => Nat.le_of_ble_eq_true rfl) (As := [.ref sw, .int (nI a)]) (st := []) (cs' := (0, 0)) rfl rfl rfl dX8_minutesApart_5 (fun r_5 u_1 hp_2 ws_4 hw_3 => ?_)
  obtain rfl : r_5 = w a := hp_2
  have hw_3 : ws_4 = [(s, .inr (8, [.ref h, .ref sw, .ref sg, .int day])), (sw, .inl (V.2.2.1, 7, .inl w))] := hw_3.symm
  subst hw_3
  refine g_aload_n X dX8_minutesApart_8 rfl ?_
  refine g_get X uwX8 0 rfl rfl 1 (by decide) kl_X8_9 rfl rfl gwX8 dX8_minutesApart_9 ?_
  refine g_iload_n X dX8_minutesApart_12 rfl ?_
  refine g_callNi X (c_X10_at V sw 7 w b (by omega) (by decide)) mo_X10_at kl_X8_31 [1] rfl rfl (fun _ => Nat.le_of_ble_eq_true rfl) (As := [.ref sw, .int (nI b)]) (st := [.int (w a)]) (cs' := (0, 0)) rfl rfl rfl dX8_minutesApart_13 (fun r_10 u_6 hp_7 ws_9 hw_8 => ?_)
  obtain rfl : r_10 = w b := hp_7
  have hw_8 : ws_9 = [(s, .inr (8, [.ref h, .ref sw, .ref sg, .int day])), (sw, .inl (V.2.2.1, 7, .inl w))] := hw_8.symm
  subst hw_8
  refine g_isub X dX8_minutesApart_16 ?_
  refine g_mabs X kl_X8_113 dX8_minutesApart_17 (by decide) (Nat.le_of_ble_eq_true rfl) (by decide) (by decide) ?_
  exact g_iret X E dX8_minutesApart_20 () (absF ((w a) - (w b))) (by first | rfl | (simp []; done)) rfl
