set_option maxHeartbeats 4000000 in
set_option maxRecDepth 100000 in
theorem c_X10_at (V : gV) (q : Nat) (n : Nat) (f : Nat → Int32) (i : Nat) (hi : i < n) (hn : n < 2147483648) : Ki V yX10_at cX10_at 2 .int ({ frames := 0, cells := 0, slots := 0, locals := 0 }) [.ref q, .int (nI i)] [(q, .inl (V.2.2.1, n, .inl f))] (fun (r : Int32) (u : Unit) => r = f i) (fun u => [(q, .inl (V.2.2.1, n, .inl f))]) := by
  refine Ki.of [some (.ref q), some (.int (nI i))] (by decide) (Nat.le_of_ble_eq_true rfl) rfl rfl ?_
  intro Z X E
  have X : gX V Z RX10 cX10_at 2 ({ frames := 0, cells := 0, slots := 0, locals := 0 }) := X
  refine g_iload_n X dX10_at_0 rfl ?_
  refine g_if_lt X 16 dX10_at_1 (by decide) (fun c1_1 => absurd c1_1 (flt (a := i) (b := 0) (by omega) (by omega) (by omega))) (fun c1_1 => ?_)
  refine g_iload_n X dX10_at_4 rfl ?_
  refine g_aload_n X dX10_at_5 rfl ?_
  refine g_alen X 0 (nI n) rfl rfl dX10_at_6 ?_
  refine g_icmp_ge X 16 dX10_at_7 (by decide) (fun c7_2 => absurd c7_2 (fge (a := i) (b := n) (by omega) (by omega) (by omega))) (fun c7_2 => ?_)
  refine g_aload_n X dX10_at_10 rfl ?_
  refine g_iload_n X dX10_at_11 rfl ?_
  refine g_iald' X 0 rfl (i := i) rfl (by omega) (by omega) dX10_at_12 ?_
  refine g_goto X 17 dX10_at_13 (by decide) ?_
  exact g_iret X E dX10_at_17 () (f i) (by first | rfl | (simp [c1_1, c7_2]; done)) rfl

set_option maxHeartbeats 4000000 in
set_option maxRecDepth 100000 in
theorem c_X10_atg (V : gV) (q : Nat) (n : Nat) (f : Nat → Int32) (i : Int32) (hn : n < 2147483648) : Ki V yX10_at cX10_at 2 .int ({ frames := 0, cells := 0, slots := 0, locals := 0 }) [.ref q, .int i] [(q, .inl (V.2.2.1, n, .inl f))] (fun (r : Int32) (u : Unit) => r = atF n f i) (fun u => [(q, .inl (V.2.2.1, n, .inl f))]) := by
  refine Ki.of [some (.ref q), some (.int i)] (by decide) (Nat.le_of_ble_eq_true rfl) rfl rfl ?_
  intro Z X E
  have X : gX V Z RX10 cX10_at 2 ({ frames := 0, cells := 0, slots := 0, locals := 0 }) := X
  refine g_iload_n X dX10_at_0 rfl ?_
  refine g_if_lt X 16 dX10_at_1 (by decide) (fun c1_1 => ?_) (fun c1_1 => ?_)
  · have c1_1d := Int32.not_le.mpr c1_1
    refine g_iconst X (0) dX10_at_16 (by decide) ?_
    exact g_iret X E dX10_at_17 () 0 (by first | rfl | (simp [atF, c1_1, c1_1d]; done)) rfl
  · have c1_1d := Int32.not_lt.mp c1_1
    refine g_iload_n X dX10_at_4 rfl ?_
    refine g_aload_n X dX10_at_5 rfl ?_
    refine g_alen X 0 (nI n) rfl rfl dX10_at_6 ?_
    refine g_icmp_ge X 16 dX10_at_7 (by decide) (fun c7_2 => ?_) (fun c7_2 => ?_)
    · have c7_2d := Int32.not_lt.mpr c7_2
      refine g_iconst X (0) dX10_at_16 (by decide) ?_
      exact g_iret X E dX10_at_17 () 0 (by first | rfl | (simp [atF, c1_1, c1_1d, c7_2, c7_2d]; done)) rfl
    · have c7_2d := Int32.not_le.mp c7_2
      refine g_aload_n X dX10_at_10 rfl ?_
      refine g_iload_n X dX10_at_11 rfl ?_
      refine g_iald X 0 rfl (vpin_of c1_1 c7_2 hn) dX10_at_12 ?_
      refine g_goto X 17 dX10_at_13 (by decide) ?_
      exact g_iret X E dX10_at_17 () (f i.toNatClampNeg) (by first | rfl | (simp [atF, c1_1, c1_1d, c7_2, c7_2d]; done)) rfl

set_option maxHeartbeats 4000000 in
set_option maxRecDepth 100000 in
theorem c_X10_put (V : gV) (q : Nat) (n : Nat) (f : Nat → Int32) (i : Nat) (x : Int32) (hi : i < n) (hn : n < 2147483648) : Kv V yX10_put cX10_put 3 ({ frames := 0, cells := 0, slots := 0, locals := 0 }) [.ref q, .int (nI i), .int x] [(q, .inl (V.2.2.1, n, .inl f))] (fun u : (Nat → Int32) => u = upd f i x) (fun u => [(q, .inl (V.2.2.1, n, .inl u))]) := by
  refine Kv.of [some (.ref q), some (.int (nI i)), some (.int x)] (by decide) (Nat.le_of_ble_eq_true rfl) rfl rfl ?_
  intro Z X E
  have X : gX V Z RX10 cX10_put 3 ({ frames := 0, cells := 0, slots := 0, locals := 0 }) := X
  refine g_iload_n X dX10_put_0 rfl ?_
  refine g_if_lt X 14 dX10_put_1 (by decide) (fun c1_1 => absurd c1_1 (flt (a := i) (b := 0) (by omega) (by omega) (by omega))) (fun c1_1 => ?_)
  refine g_iload_n X dX10_put_4 rfl ?_
  refine g_aload_n X dX10_put_5 rfl ?_
  refine g_alen X 0 (nI n) rfl rfl dX10_put_6 ?_
  refine g_icmp_ge X 14 dX10_put_7 (by decide) (fun c7_2 => absurd c7_2 (fge (a := i) (b := n) (by omega) (by omega) (by omega))) (fun c7_2 => ?_)
  refine g_aload_n X dX10_put_10 rfl ?_
  refine g_iload_n X dX10_put_11 rfl ?_
  refine g_iload_n X dX10_put_12 rfl ?_
  refine g_iast' X 0 rfl (i := i) rfl (by omega) (by omega) (ws' := [(q, .inl (V.2.2.1, n, .inl (upd f i x)))]) rfl dX10_put_13 ?_
  exact g_vret X E dX10_put_14 (upd f i x) (by first | rfl | (simp [c1_1, c7_2]; done)) rfl

set_option maxHeartbeats 4000000 in
set_option maxRecDepth 100000 in
theorem c_X10_lessonNumber (V : gV) (a : Nat) (b : Nat)  : Ki V yX10_lessonNumber cX10_lessonNumber 2 .int ({ frames := 0, cells := 0, slots := 0, locals := 0 }) [.int (nI a), .int (nI b)] [] (fun (r : Int32) (u : Unit) => r = nI (10 * a + b)) (fun u => []) := by
  refine Ki.of [some (.int (nI a)), some (.int (nI b))] (by decide) (Nat.le_of_ble_eq_true rfl) rfl rfl ?_
  intro Z X E
  have X : gX V Z RX10 cX10_lessonNumber 2 ({ frames := 0, cells := 0, slots := 0, locals := 0 }) := X
  refine g_bipush X (10) dX10_lessonNumber_0 (by decide) ?_
  refine g_iload_n X dX10_lessonNumber_2 rfl ?_
  refine g_imul X dX10_lessonNumber_3 ?_
  refine g_toe (x' := nI (10 * a)) (nI_mul' rfl rfl) ?_
  refine g_iload_n X dX10_lessonNumber_4 rfl ?_
  refine g_iadd X dX10_lessonNumber_5 ?_
  refine g_toe (x' := nI (10 * a + b)) (nI_add' rfl rfl) ?_
  exact g_iret X E dX10_lessonNumber_6 () (nI (10 * a + b)) (by first | rfl | (simp []; done)) rfl

set_option maxHeartbeats 4000000 in
set_option maxRecDepth 100000 in
theorem c_X4_hasClock (V : gV) (h : Nat) (hk : Nat) (hfw : Nat) (hfg : Nat) (hwb : Nat) (hld : Nat) (hte : Nat) (hpu : Nat) (hnu : Nat) (n : Nat) (m : Nat) (hwa : Int32) (hto : Int32) (c : Int32) (hn : n ≤ 7) : Ki V yX4_hasClock cX4_hasClock 2 .boolean ({ frames := 0, cells := 0, slots := 0, locals := 0 }) [.ref h, .int c] [(h, .inr (4, [.ref hk, .ref hfw, .ref hfg, .ref hwb, .ref hld, .ref hte, .ref hpu, .int (nI n), .int hwa, .int (nI m), .ref hnu, .int hto]))] (fun (r : Int32) (u : Unit) => r = (if c < 0 then 0 else if nI n ≤ c then 0 else 1)) (fun u => [(h, .inr (4, [.ref hk, .ref hfw, .ref hfg, .ref hwb, .ref hld, .ref hte, .ref hpu, .int (nI n), .int hwa, .int (nI m), .ref hnu, .int hto]))]) := by
  refine Ki.of [some (.ref h), some (.int c)] (by decide) (Nat.le_of_ble_eq_true rfl) rfl rfl ?_
  intro Z X E
  have X : gX V Z RX4 cX4_hasClock 2 ({ frames := 0, cells := 0, slots := 0, locals := 0 }) := X
  refine g_iload_n X dX4_hasClock_0 rfl ?_
  refine g_if_lt X 16 dX4_hasClock_1 (by decide) (fun c1_1 => ?_) (fun c1_1 => ?_)
  · have c1_1d := Int32.not_le.mpr c1_1
    refine g_iconst X (0) dX4_hasClock_16 (by decide) ?_
    exact g_zret X E dX4_hasClock_17 () 0 rfl (by first | rfl | (simp [c1_1, c1_1d]; done)) rfl
  · have c1_1d := Int32.not_lt.mp c1_1
    refine g_iload_n X dX4_hasClock_4 rfl ?_
    refine g_aload_n X dX4_hasClock_5 rfl ?_
    refine g_get X uwX4 0 rfl rfl 7 (by decide) kl_X4_33 rfl rfl gwX4 dX4_hasClock_6 ?_
    refine g_icmp_ge X 16 dX4_hasClock_9 (by decide) (fun c9_2 => ?_) (fun c9_2 => ?_)
    · have c9_2d := Int32.not_lt.mpr c9_2
      refine g_iconst X (0) dX4_hasClock_16 (by decide) ?_
      exact g_zret X E dX4_hasClock_17 () 0 rfl (by first | rfl | (simp [c1_1, c1_1d, c9_2, c9_2d]; done)) rfl
    · have c9_2d := Int32.not_le.mp c9_2
      refine g_iconst X (1) dX4_hasClock_12 (by decide) ?_
      refine g_goto X 17 dX4_hasClock_13 (by decide) ?_
      exact g_zret X E dX4_hasClock_17 () 1 rfl (by first | rfl | (simp [c1_1, c1_1d, c9_2, c9_2d]; done)) rfl

set_option maxHeartbeats 4000000 in
set_option maxRecDepth 100000 in
theorem c_X8_wrongOf (V : gV) (s : Nat) (sw : Nat) (sg : Nat) (day : Int32) (w : Nat → Int32) (h : Nat) (c : Nat) (hc : c < 7) : Ki V yX8_wrongOf cX8_wrongOf 2 .int ({ frames := 1, cells := 0, slots := 0, locals := 21 }) [.ref s, .int (nI c)] [(s, .inr (8, [.ref h, .ref sw, .ref sg, .int day])), (sw, .inl (V.2.2.1, 7, .inl w))] (fun (r : Int32) (u : Unit) => r = w c) (fun u => [(s, .inr (8, [.ref h, .ref sw, .ref sg, .int day])), (sw, .inl (V.2.2.1, 7, .inl w))]) := by
  refine Ki.of [some (.ref s), some (.int (nI c))] (by decide) (Nat.le_of_ble_eq_true rfl) rfl rfl ?_
  intro Z X E
  have X : gX V Z RX8 cX8_wrongOf 2 ({ frames := 1, cells := 0, slots := 0, locals := 21 }) := X
  refine g_aload_n X dX8_wrongOf_0 rfl ?_
  refine g_get X uwX8 0 rfl rfl 1 (by decide) kl_X8_9 rfl rfl gwX8 dX8_wrongOf_1 ?_
  refine g_iload_n X dX8_wrongOf_4 rfl ?_
  refine g_callNi X (c_X10_at V sw 7 w c (by omega) (by decide)) mo_X10_at kl_X8_31 [1] [0, 1] rfl (by decide +kernel) rfl rfl (fun _ => Nat.le_of_ble_eq_true rfl) (As := [.ref sw, .int (nI c)]) (st := []) (cs' := (0, 0)) rfl rfl rfl dX8_wrongOf_5 (fun r_5 u_1 hp_2 ws_4 hw_3 => ?_)
  obtain rfl : r_5 = w c := hp_2
  have hw_3x : ws_4 = [(s, .inr (8, [.ref h, .ref sw, .ref sg, .int day])), (sw, .inl (V.2.2.1, 7, .inl w))] := hw_3.symm
  clear hw_3; subst hw_3x
  exact g_iret X E dX8_wrongOf_8 () (w c) (by first | rfl | (simp []; done)) rfl

set_option maxHeartbeats 4000000 in
set_option maxRecDepth 100000 in
theorem c_X8_gainOf (V : gV) (s : Nat) (sw : Nat) (sg : Nat) (day : Int32) (g : Nat → Int32) (h : Nat) (c : Nat) (hc : c < 7) : Ki V yX8_gainOf cX8_gainOf 2 .int ({ frames := 1, cells := 0, slots := 0, locals := 21 }) [.ref s, .int (nI c)] [(s, .inr (8, [.ref h, .ref sw, .ref sg, .int day])), (sg, .inl (V.2.2.1, 7, .inl g))] (fun (r : Int32) (u : Unit) => r = g c) (fun u => [(s, .inr (8, [.ref h, .ref sw, .ref sg, .int day])), (sg, .inl (V.2.2.1, 7, .inl g))]) := by
  refine Ki.of [some (.ref s), some (.int (nI c))] (by decide) (Nat.le_of_ble_eq_true rfl) rfl rfl ?_
  intro Z X E
  have X : gX V Z RX8 cX8_gainOf 2 ({ frames := 1, cells := 0, slots := 0, locals := 21 }) := X
  refine g_aload_n X dX8_gainOf_0 rfl ?_
  refine g_get X uwX8 0 rfl rfl 2 (by decide) kl_X8_15 rfl rfl gwX8 dX8_gainOf_1 ?_
  refine g_iload_n X dX8_gainOf_4 rfl ?_
  refine g_callNi X (c_X10_at V sg 7 g c (by omega) (by decide)) mo_X10_at kl_X8_31 [1] [0, 1] rfl (by decide +kernel) rfl rfl (fun _ => Nat.le_of_ble_eq_true rfl) (As := [.ref sg, .int (nI c)]) (st := []) (cs' := (0, 0)) rfl rfl rfl dX8_gainOf_5 (fun r_5 u_1 hp_2 ws_4 hw_3 => ?_)
  obtain rfl : r_5 = g c := hp_2
  have hw_3x : ws_4 = [(s, .inr (8, [.ref h, .ref sw, .ref sg, .int day])), (sg, .inl (V.2.2.1, 7, .inl g))] := hw_3.symm
  clear hw_3; subst hw_3x
  exact g_iret X E dX8_gainOf_8 () (g c) (by first | rfl | (simp []; done)) rfl

set_option maxHeartbeats 4000000 in
set_option maxRecDepth 100000 in
theorem c_X8_makeWrong (V : gV) (s : Nat) (sw : Nat) (sg : Nat) (day : Int32) (w : Nat → Int32) (h : Nat) (c : Nat) (x : Int32) (hc : c < 7) : Kv V yX8_makeWrong cX8_makeWrong 3 ({ frames := 1, cells := 0, slots := 0, locals := 22 }) [.ref s, .int (nI c), .int x] [(s, .inr (8, [.ref h, .ref sw, .ref sg, .int day])), (sw, .inl (V.2.2.1, 7, .inl w))] (fun u : (Nat → Int32) => u = upd w c (clampF x)) (fun u => [(s, .inr (8, [.ref h, .ref sw, .ref sg, .int day])), (sw, .inl (V.2.2.1, 7, .inl u))]) := by
  refine Kv.of [some (.ref s), some (.int (nI c)), some (.int x)] (by decide) (Nat.le_of_ble_eq_true rfl) rfl rfl ?_
  intro Z X E
  have X : gX V Z RX8 cX8_makeWrong 3 ({ frames := 1, cells := 0, slots := 0, locals := 22 }) := X
  refine g_aload_n X dX8_makeWrong_0 rfl ?_
  refine g_get X uwX8 0 rfl rfl 1 (by decide) kl_X8_9 rfl rfl gwX8 dX8_makeWrong_1 ?_
  refine g_iload_n X dX8_makeWrong_4 rfl ?_
  refine g_sipush X (-600) dX8_makeWrong_5 (by decide) ?_
  refine g_sipush X (600) dX8_makeWrong_8 (by decide) ?_
  refine g_iload_n X dX8_makeWrong_11 rfl ?_
  refine g_mmin X kl_X8_42 dX8_makeWrong_12 (by decide) (Nat.le_of_ble_eq_true rfl) (by decide) (by decide) ?_
  refine g_mmax X kl_X8_48 dX8_makeWrong_15 (by decide) (Nat.le_of_ble_eq_true rfl) (by decide) (by decide) ?_
  refine g_callNv X (c_X10_put V sw 7 w c (maxF (-600) (minF 600 x)) (by omega) (by decide)) mo_X10_put kl_X8_35 [1] [0, 1] rfl (by decide +kernel) rfl rfl (fun _ => Nat.le_of_ble_eq_true rfl) (As := [.ref sw, .int (nI c), .int (maxF (-600) (minF 600 x))]) (st := []) (cs' := (0, 0)) rfl rfl rfl dX8_makeWrong_18 (fun nf_1 hp_2 ws_4 hw_3 => ?_)
  obtain rfl : nf_1 = upd w c (maxF (-600) (minF 600 x)) := hp_2
  have hw_3x : ws_4 = [(s, .inr (8, [.ref h, .ref sw, .ref sg, .int day])), (sw, .inl (V.2.2.1, 7, .inl (upd w c (maxF (-600) (minF 600 x)))))] := hw_3.symm
  clear hw_3; subst hw_3x
  exact g_vret X E dX8_makeWrong_21 (upd w c (maxF (-600) (minF 600 x))) (by first | rfl | (simp []; done)) rfl

set_option maxHeartbeats 4000000 in
set_option maxRecDepth 100000 in
theorem c_X8_canLearn (V : gV) (s : Nat) (sw : Nat) (sg : Nat) (day : Int32) (h : Nat) (hk : Nat) (hfw : Nat) (hfg : Nat) (hwb : Nat) (hld : Nat) (hte : Nat) (hpu : Nat) (hnu : Nat) (n : Nat) (m : Nat) (hwa : Int32) (hto : Int32) (k : Nat → Int32) (b : Nat) (hb : b < 7) : Ki V yX8_canLearn cX8_canLearn 3 .boolean ({ frames := 1, cells := 0, slots := 0, locals := 21 }) [.ref s, .int (nI b)] [(s, .inr (8, [.ref h, .ref sw, .ref sg, .int day])), (h, .inr (4, [.ref hk, .ref hfw, .ref hfg, .ref hwb, .ref hld, .ref hte, .ref hpu, .int (nI n), .int hwa, .int (nI m), .ref hnu, .int hto])), (hk, .inl (V.2.2.1, 7, .inl k))] (fun (r : Int32) (u : Unit) => r = canF (k b) day) (fun u => [(s, .inr (8, [.ref h, .ref sw, .ref sg, .int day])), (h, .inr (4, [.ref hk, .ref hfw, .ref hfg, .ref hwb, .ref hld, .ref hte, .ref hpu, .int (nI n), .int hwa, .int (nI m), .ref hnu, .int hto])), (hk, .inl (V.2.2.1, 7, .inl k))]) := by
  refine Ki.of [some (.ref s), some (.int (nI b)), none] (by decide) (Nat.le_of_ble_eq_true rfl) rfl rfl ?_
  intro Z X E
  have X : gX V Z RX8 cX8_canLearn 3 ({ frames := 1, cells := 0, slots := 0, locals := 21 }) := X
  refine g_aload_n X dX8_canLearn_0 rfl ?_
  refine g_get X uwX8 0 rfl rfl 0 (by decide) kl_X8_22 rfl rfl gwX8 dX8_canLearn_1 ?_
  refine g_getN X uwX4 1 rfl rfl 0 (by decide) kl_X8_65 rfl rfl gwX4 dX8_canLearn_4 ?_
  refine g_iload_n X dX8_canLearn_7 rfl ?_
  refine g_callNi X (c_X10_at V hk 7 k b (by omega) (by decide)) mo_X10_at kl_X8_31 [2] [0, 0, 1] rfl (by decide +kernel) rfl rfl (fun _ => Nat.le_of_ble_eq_true rfl) (As := [.ref hk, .int (nI b)]) (st := []) (cs' := (0, 0)) rfl rfl rfl dX8_canLearn_8 (fun r_5 u_1 hp_2 ws_4 hw_3 => ?_)
  obtain rfl : r_5 = k b := hp_2
  have hw_3x : ws_4 = [(s, .inr (8, [.ref h, .ref sw, .ref sg, .int day])), (h, .inr (4, [.ref hk, .ref hfw, .ref hfg, .ref hwb, .ref hld, .ref hte, .ref hpu, .int (nI n), .int hwa, .int (nI m), .ref hnu, .int hto])), (hk, .inl (V.2.2.1, 7, .inl k))] := hw_3.symm
  clear hw_3; subst hw_3x
  refine g_istore_n X (L' := [some (.ref s), some (.int (nI b)), some (.int (k b))]) dX8_canLearn_11 (by decide) rfl rfl ?_
  refine g_iload_n X dX8_canLearn_12 rfl ?_
  refine g_iconst X (3) dX8_canLearn_13 (by decide) ?_
  refine g_icmp_eq X 38 dX8_canLearn_14 (by decide) (fun c14_6 => ?_) (fun c14_6 => ?_)
  · refine g_iconst X (0) dX8_canLearn_38 (by decide) ?_
    exact g_zret X E dX8_canLearn_39 () 0 rfl (by first | rfl | (simp [canF, c14_6]; done)) rfl
  · refine g_iload_n X dX8_canLearn_17 rfl ?_
    refine g_iconst X (4) dX8_canLearn_18 (by decide) ?_
    refine g_icmp_ne X 34 dX8_canLearn_19 (by decide) (fun c19_7 => ?_) (fun c19_7 => ?_)
    · refine g_iconst X (1) dX8_canLearn_34 (by decide) ?_
      refine g_goto X 39 dX8_canLearn_35 (by decide) ?_
      exact g_zret X E dX8_canLearn_39 () 1 rfl (by first | rfl | (simp [canF, c14_6, c19_7]; done)) rfl
    · refine g_aload_n X dX8_canLearn_22 rfl ?_
      refine g_get X uwX8 0 rfl rfl 3 (by decide) kl_X8_18 rfl rfl gwX8 dX8_canLearn_23 ?_
      refine g_bipush X (7) dX8_canLearn_26 (by decide) ?_
      refine g_rem X dX8_canLearn_28 (by decide) ?_
      refine g_bipush X (6) dX8_canLearn_29 (by decide) ?_
      refine g_icmp_ne X 38 dX8_canLearn_31 (by decide) (fun c31_8 => ?_) (fun c31_8 => ?_)
      · refine g_iconst X (0) dX8_canLearn_38 (by decide) ?_
        exact g_zret X E dX8_canLearn_39 () 0 rfl (by first | rfl | (simp [canF, c14_6, c19_7, c31_8]; done)) rfl
      · refine g_iconst X (1) dX8_canLearn_34 (by decide) ?_
        refine g_goto X 39 dX8_canLearn_35 (by decide) ?_
        exact g_zret X E dX8_canLearn_39 () 1 rfl (by first | rfl | (simp [canF, c14_6, c19_7, c31_8]; done)) rfl

set_option maxHeartbeats 4000000 in
set_option maxRecDepth 100000 in
theorem c_X8_wrongWhenTaught (V : gV) (s : Nat) (sw : Nat) (sg : Nat) (day : Int32) (w : Nat → Int32) (h : Nat) (hk : Nat) (hfw : Nat) (hfg : Nat) (hwb : Nat) (hld : Nat) (hte : Nat) (hpu : Nat) (hnu : Nat) (n : Nat) (m : Nat) (hwa : Int32) (hto : Int32) (k : Nat → Int32) (a : Nat) (b : Nat) (ha : a < 7) (hb : b < 7) : Ki V yX8_wrongWhenTaught cX8_wrongWhenTaught 5 .int ({ frames := 1, cells := 0, slots := 0, locals := 21 }) [.ref s, .int (nI a), .int (nI b)] [(s, .inr (8, [.ref h, .ref sw, .ref sg, .int day])), (sw, .inl (V.2.2.1, 7, .inl w)), (h, .inr (4, [.ref hk, .ref hfw, .ref hfg, .ref hwb, .ref hld, .ref hte, .ref hpu, .int (nI n), .int hwa, .int (nI m), .ref hnu, .int hto])), (hk, .inl (V.2.2.1, 7, .inl k))] (fun (r : Int32) (u : Unit) => r = wwF (k b) (w a) (w b)) (fun u => [(s, .inr (8, [.ref h, .ref sw, .ref sg, .int day])), (sw, .inl (V.2.2.1, 7, .inl w)), (h, .inr (4, [.ref hk, .ref hfw, .ref hfg, .ref hwb, .ref hld, .ref hte, .ref hpu, .int (nI n), .int hwa, .int (nI m), .ref hnu, .int hto])), (hk, .inl (V.2.2.1, 7, .inl k))]) := by
  refine Ki.of [some (.ref s), some (.int (nI a)), some (.int (nI b)), none, none] (by decide) (Nat.le_of_ble_eq_true rfl) rfl rfl ?_
  intro Z X E
  have X : gX V Z RX8 cX8_wrongWhenTaught 5 ({ frames := 1, cells := 0, slots := 0, locals := 21 }) := X
  refine g_aload_n X dX8_wrongWhenTaught_0 rfl ?_
  refine g_get X uwX8 0 rfl rfl 1 (by decide) kl_X8_9 rfl rfl gwX8 dX8_wrongWhenTaught_1 ?_
  refine g_iload_n X dX8_wrongWhenTaught_4 rfl ?_
  refine g_callNi X (c_X10_at V sw 7 w a (by omega) (by decide)) mo_X10_at kl_X8_31 [1] [0, 1, 0, 0] rfl (by decide +kernel) rfl rfl (fun _ => Nat.le_of_ble_eq_true rfl) (As := [.ref sw, .int (nI a)]) (st := []) (cs' := (0, 0)) rfl rfl rfl dX8_wrongWhenTaught_5 (fun r_5 u_1 hp_2 ws_4 hw_3 => ?_)
  obtain rfl : r_5 = w a := hp_2
  have hw_3x : ws_4 = [(s, .inr (8, [.ref h, .ref sw, .ref sg, .int day])), (sw, .inl (V.2.2.1, 7, .inl w)), (h, .inr (4, [.ref hk, .ref hfw, .ref hfg, .ref hwb, .ref hld, .ref hte, .ref hpu, .int (nI n), .int hwa, .int (nI m), .ref hnu, .int hto])), (hk, .inl (V.2.2.1, 7, .inl k))] := hw_3.symm
  clear hw_3; subst hw_3x
  refine g_istore_n X (L' := [some (.ref s), some (.int (nI a)), some (.int (nI b)), some (.int (w a)), none]) dX8_wrongWhenTaught_8 (by decide) rfl rfl ?_
  refine g_aload_n X dX8_wrongWhenTaught_9 rfl ?_
  refine g_get X uwX8 0 rfl rfl 1 (by decide) kl_X8_9 rfl rfl gwX8 dX8_wrongWhenTaught_10 ?_
  refine g_iload_n X dX8_wrongWhenTaught_13 rfl ?_
  refine g_callNi X (c_X10_at V sw 7 w b (by omega) (by decide)) mo_X10_at kl_X8_31 [1] [0, 1, 0, 0] rfl (by decide +kernel) rfl rfl (fun _ => Nat.le_of_ble_eq_true rfl) (As := [.ref sw, .int (nI b)]) (st := []) (cs' := (0, 0)) rfl rfl rfl dX8_wrongWhenTaught_14 (fun r_10 u_6 hp_7 ws_9 hw_8 => ?_)
  obtain rfl : r_10 = w b := hp_7
  have hw_8x : ws_9 = [(s, .inr (8, [.ref h, .ref sw, .ref sg, .int day])), (sw, .inl (V.2.2.1, 7, .inl w)), (h, .inr (4, [.ref hk, .ref hfw, .ref hfg, .ref hwb, .ref hld, .ref hte, .ref hpu, .int (nI n), .int hwa, .int (nI m), .ref hnu, .int hto])), (hk, .inl (V.2.2.1, 7, .inl k))] := hw_8.symm
  clear hw_8; subst hw_8x
  refine g_istore X (L' := [some (.ref s), some (.int (nI a)), some (.int (nI b)), some (.int (w a)), some (.int (w b))]) dX8_wrongWhenTaught_17 (by decide) rfl rfl ?_
  refine g_aload_n X dX8_wrongWhenTaught_19 rfl ?_
  refine g_get X uwX8 0 rfl rfl 0 (by decide) kl_X8_22 rfl rfl gwX8 dX8_wrongWhenTaught_20 ?_
  refine g_getN X uwX4 2 rfl rfl 0 (by decide) kl_X8_65 rfl rfl gwX4 dX8_wrongWhenTaught_23 ?_
  refine g_iload_n X dX8_wrongWhenTaught_26 rfl ?_
  refine g_callNi X (c_X10_at V hk 7 k b (by omega) (by decide)) mo_X10_at kl_X8_31 [3] [0, 0, 0, 1] rfl (by decide +kernel) rfl rfl (fun _ => Nat.le_of_ble_eq_true rfl) (As := [.ref hk, .int (nI b)]) (st := []) (cs' := (0, 0)) rfl rfl rfl dX8_wrongWhenTaught_27 (fun r_15 u_11 hp_12 ws_14 hw_13 => ?_)
  obtain rfl : r_15 = k b := hp_12
  have hw_13x : ws_14 = [(s, .inr (8, [.ref h, .ref sw, .ref sg, .int day])), (sw, .inl (V.2.2.1, 7, .inl w)), (h, .inr (4, [.ref hk, .ref hfw, .ref hfg, .ref hwb, .ref hld, .ref hte, .ref hpu, .int (nI n), .int hwa, .int (nI m), .ref hnu, .int hto])), (hk, .inl (V.2.2.1, 7, .inl k))] := hw_13.symm
  clear hw_13; subst hw_13x
  by_cases c30_16 : k b = 1
  · refine g_lookup X 56 dX8_wrongWhenTaught_30 (off := 26) (by decide) (by rw [c30_16]; decide) (by decide) ?_
    refine g_iload X dX8_wrongWhenTaught_56 rfl ?_
    refine g_iload_n X dX8_wrongWhenTaught_58 rfl ?_
    refine g_iload X dX8_wrongWhenTaught_59 rfl ?_
    refine g_isub X dX8_wrongWhenTaught_61 ?_
    refine g_iconst X (2) dX8_wrongWhenTaught_62 (by decide) ?_
    refine g_idiv X dX8_wrongWhenTaught_63 (by decide) ?_
    refine g_iadd X dX8_wrongWhenTaught_64 ?_
    exact g_iret X E dX8_wrongWhenTaught_65 () ((w b) + (((w a) - (w b)) / 2)) (by first | rfl | (simp [wwF, c30_16]; done)) rfl
  by_cases c30_17 : k b = 2
  · refine g_lookup X 66 dX8_wrongWhenTaught_30 (off := 36) (by decide) (by rw [c30_17]; decide) (by decide) ?_
    refine g_sipush X (600) dX8_wrongWhenTaught_66 (by decide) ?_
    refine g_iload_n X dX8_wrongWhenTaught_69 rfl ?_
    refine g_iconst X (1) dX8_wrongWhenTaught_70 (by decide) ?_
    refine g_iadd X dX8_wrongWhenTaught_71 ?_
    refine g_mmin X kl_X8_42 dX8_wrongWhenTaught_72 (by decide) (Nat.le_of_ble_eq_true rfl) (by decide) (by decide) ?_
    exact g_iret X E dX8_wrongWhenTaught_75 () (minF 600 ((w a) + 1)) (by first | rfl | (simp [wwF, c30_16, c30_17]; done)) rfl
  refine g_lookup X 76 dX8_wrongWhenTaught_30 (off := 46) (by decide) (by have h0 := toInt_ne c30_16 (z := 1) (by decide); have h1 := toInt_ne c30_17 (z := 2) (by decide); simp [Op.lookupswitch.offset, h0, h1]) (by decide) ?_
  refine g_iload_n X dX8_wrongWhenTaught_76 rfl ?_
  exact g_iret X E dX8_wrongWhenTaught_77 () (w a) (by first | rfl | (simp [wwF, c30_16, c30_17]; done)) rfl

set_option maxHeartbeats 4000000 in
set_option maxRecDepth 100000 in
theorem c_X8_learn (V : gV) (s : Nat) (sw : Nat) (sg : Nat) (day : Int32) (w : Nat → Int32) (h : Nat) (hk : Nat) (hfw : Nat) (hfg : Nat) (hwb : Nat) (hld : Nat) (hte : Nat) (hpu : Nat) (hnu : Nat) (n : Nat) (m : Nat) (hwa : Int32) (hto : Int32) (k : Nat → Int32) (a : Nat) (b : Nat) (ha : a < 7) (hb : b < 7) : Kv V yX8_learn cX8_learn 3 ({ frames := 2, cells := 0, slots := 0, locals := 45 }) [.ref s, .int (nI a), .int (nI b)] [(s, .inr (8, [.ref h, .ref sw, .ref sg, .int day])), (sw, .inl (V.2.2.1, 7, .inl w)), (h, .inr (4, [.ref hk, .ref hfw, .ref hfg, .ref hwb, .ref hld, .ref hte, .ref hpu, .int (nI n), .int hwa, .int (nI m), .ref hnu, .int hto])), (hk, .inl (V.2.2.1, 7, .inl k))] (fun u : (Nat → Int32) => u = learnF k day a b w) (fun u => [(s, .inr (8, [.ref h, .ref sw, .ref sg, .int day])), (sw, .inl (V.2.2.1, 7, .inl u)), (h, .inr (4, [.ref hk, .ref hfw, .ref hfg, .ref hwb, .ref hld, .ref hte, .ref hpu, .int (nI n), .int hwa, .int (nI m), .ref hnu, .int hto])), (hk, .inl (V.2.2.1, 7, .inl k))]) := by
  refine Kv.of [some (.ref s), some (.int (nI a)), some (.int (nI b))] (by decide) (Nat.le_of_ble_eq_true rfl) rfl rfl ?_
  intro Z X E
  have X : gX V Z RX8 cX8_learn 3 ({ frames := 2, cells := 0, slots := 0, locals := 45 }) := X
  refine g_aload_n X dX8_learn_0 rfl ?_
  refine g_iload_n X dX8_learn_1 rfl ?_
  refine g_callVi X (c_X8_canLearn V s sw sg day h hk hfw hfg hwb hld hte hpu hnu n m hwa hto k b (by omega)) mo_X8_canLearn kl_X8_68 [0, 2, 3] [1, 0, 2, 3] rfl (by decide +kernel) rfl rfl (fun _ => Nat.le_of_ble_eq_true rfl) 0 8 rfl rfl (As := [.int (nI b)]) (st := []) (cs' := (0, 0)) rfl rfl rfl rfl dX8_learn_2 (fun r_5 u_1 hp_2 ws_4 hw_3 => ?_)
  obtain rfl : r_5 = canF (k b) day := hp_2
  have hw_3x : ws_4 = [(s, .inr (8, [.ref h, .ref sw, .ref sg, .int day])), (sw, .inl (V.2.2.1, 7, .inl w)), (h, .inr (4, [.ref hk, .ref hfw, .ref hfg, .ref hwb, .ref hld, .ref hte, .ref hpu, .int (nI n), .int hwa, .int (nI m), .ref hnu, .int hto])), (hk, .inl (V.2.2.1, 7, .inl k))] := hw_3.symm
  clear hw_3; subst hw_3x
  refine g_if_eq X 19 dX8_learn_5 (by decide) (fun c5_6 => ?_) (fun c5_6 => ?_)
  · exact g_vret X E dX8_learn_19 w (by first | rfl | (simp [learnF, c5_6]; done)) rfl
  · refine g_aload_n X dX8_learn_8 rfl ?_
    refine g_iload_n X dX8_learn_9 rfl ?_
    refine g_aload_n X dX8_learn_10 rfl ?_
    refine g_iload_n X dX8_learn_11 rfl ?_
    refine g_iload_n X dX8_learn_12 rfl ?_
    refine g_callVi X (c_X8_wrongWhenTaught V s sw sg day w h hk hfw hfg hwb hld hte hpu hnu n m hwa hto k a b (by omega) (by omega)) mo_X8_wrongWhenTaught kl_X8_72 [0, 1, 2, 3] [1, 2, 3, 4] rfl (by decide +kernel) rfl rfl (fun _ => Nat.le_of_ble_eq_true rfl) 0 8 rfl rfl (As := [.int (nI a), .int (nI b)]) (st := [.int (nI b), .ref s]) (cs' := (0, 0)) rfl rfl rfl rfl dX8_learn_13 (fun r_11 u_7 hp_8 ws_10 hw_9 => ?_)
    obtain rfl : r_11 = wwF (k b) (w a) (w b) := hp_8
    have hw_9x : ws_10 = [(s, .inr (8, [.ref h, .ref sw, .ref sg, .int day])), (sw, .inl (V.2.2.1, 7, .inl w)), (h, .inr (4, [.ref hk, .ref hfw, .ref hfg, .ref hwb, .ref hld, .ref hte, .ref hpu, .int (nI n), .int hwa, .int (nI m), .ref hnu, .int hto])), (hk, .inl (V.2.2.1, 7, .inl k))] := hw_9.symm
    clear hw_9; subst hw_9x
    refine g_callVv X (c_X8_makeWrong V s sw sg day w h b (wwF (k b) (w a) (w b)) (by omega)) mo_X8_makeWrong kl_X8_58 [0, 1] [1, 2, 0, 0] rfl (by decide +kernel) rfl rfl (fun _ => Nat.le_of_ble_eq_true rfl) 0 8 rfl rfl (As := [.int (nI b), .int (wwF (k b) (w a) (w b))]) (st := []) (cs' := (0, 0)) rfl rfl rfl rfl dX8_learn_16 (fun nw_12 hp_13 ws_15 hw_14 => ?_)
    obtain rfl : nw_12 = upd w b (clampF (wwF (k b) (w a) (w b))) := hp_13
    have hw_14x : ws_15 = [(s, .inr (8, [.ref h, .ref sw, .ref sg, .int day])), (sw, .inl (V.2.2.1, 7, .inl (upd w b (clampF (wwF (k b) (w a) (w b)))))), (h, .inr (4, [.ref hk, .ref hfw, .ref hfg, .ref hwb, .ref hld, .ref hte, .ref hpu, .int (nI n), .int hwa, .int (nI m), .ref hnu, .int hto])), (hk, .inl (V.2.2.1, 7, .inl k))] := hw_14.symm
    clear hw_14; subst hw_14x
    exact g_vret X E dX8_learn_19 (upd w b (clampF (wwF (k b) (w a) (w b)))) (by first | rfl | (simp [learnF, c5_6]; done)) rfl

set_option maxHeartbeats 4000000 in
set_option maxRecDepth 100000 in
theorem c_X8_minutesApart (V : gV) (s : Nat) (sw : Nat) (sg : Nat) (day : Int32) (w : Nat → Int32) (h : Nat) (a : Nat) (b : Nat) (ha : a < 7) (hb : b < 7) : Ki V yX8_minutesApart cX8_minutesApart 3 .int ({ frames := 1, cells := 0, slots := 0, locals := 21 }) [.ref s, .int (nI a), .int (nI b)] [(s, .inr (8, [.ref h, .ref sw, .ref sg, .int day])), (sw, .inl (V.2.2.1, 7, .inl w))] (fun (r : Int32) (u : Unit) => r = apartF w a b) (fun u => [(s, .inr (8, [.ref h, .ref sw, .ref sg, .int day])), (sw, .inl (V.2.2.1, 7, .inl w))]) := by
  refine Ki.of [some (.ref s), some (.int (nI a)), some (.int (nI b))] (by decide) (Nat.le_of_ble_eq_true rfl) rfl rfl ?_
  intro Z X E
  have X : gX V Z RX8 cX8_minutesApart 3 ({ frames := 1, cells := 0, slots := 0, locals := 21 }) := X
  refine g_aload_n X dX8_minutesApart_0 rfl ?_
  refine g_get X uwX8 0 rfl rfl 1 (by decide) kl_X8_9 rfl rfl gwX8 dX8_minutesApart_1 ?_
  refine g_iload_n X dX8_minutesApart_4 rfl ?_
  refine g_callNi X (c_X10_at V sw 7 w a (by omega) (by decide)) mo_X10_at kl_X8_31 [1] [0, 1] rfl (by decide +kernel) rfl rfl (fun _ => Nat.le_of_ble_eq_true rfl) (As := [.ref sw, .int (nI a)]) (st := []) (cs' := (0, 0)) rfl rfl rfl dX8_minutesApart_5 (fun r_5 u_1 hp_2 ws_4 hw_3 => ?_)
  obtain rfl : r_5 = w a := hp_2
  have hw_3x : ws_4 = [(s, .inr (8, [.ref h, .ref sw, .ref sg, .int day])), (sw, .inl (V.2.2.1, 7, .inl w))] := hw_3.symm
  clear hw_3; subst hw_3x
  refine g_aload_n X dX8_minutesApart_8 rfl ?_
  refine g_get X uwX8 0 rfl rfl 1 (by decide) kl_X8_9 rfl rfl gwX8 dX8_minutesApart_9 ?_
  refine g_iload_n X dX8_minutesApart_12 rfl ?_
  refine g_callNi X (c_X10_at V sw 7 w b (by omega) (by decide)) mo_X10_at kl_X8_31 [1] [0, 1] rfl (by decide +kernel) rfl rfl (fun _ => Nat.le_of_ble_eq_true rfl) (As := [.ref sw, .int (nI b)]) (st := [.int (w a)]) (cs' := (0, 0)) rfl rfl rfl dX8_minutesApart_13 (fun r_10 u_6 hp_7 ws_9 hw_8 => ?_)
  obtain rfl : r_10 = w b := hp_7
  have hw_8x : ws_9 = [(s, .inr (8, [.ref h, .ref sw, .ref sg, .int day])), (sw, .inl (V.2.2.1, 7, .inl w))] := hw_8.symm
  clear hw_8; subst hw_8x
  refine g_isub X dX8_minutesApart_16 ?_
  refine g_mabs X kl_X8_113 dX8_minutesApart_17 (by decide) (Nat.le_of_ble_eq_true rfl) (by decide) (by decide) ?_
  exact g_iret X E dX8_minutesApart_20 () (absF ((w a) - (w b))) (by first | rfl | (simp []; done)) rfl

set_option maxHeartbeats 4000000 in
set_option maxRecDepth 100000 in
theorem c_X4_hasWall (V : gV) (h : Nat) (hk : Nat) (hfw : Nat) (hfg : Nat) (hwb : Nat) (hld : Nat) (hte : Nat) (hpu : Nat) (hnu : Nat) (n : Nat) (m : Nat) (hwa : Int32) (hto : Int32) (wb : Nat → Int32) (a : Nat) (b : Nat) (ha : a < 7) : Ki V yX4_hasWall cX4_hasWall 3 .boolean ({ frames := 1, cells := 0, slots := 0, locals := 21 }) [.ref h, .int (nI a), .int (nI b)] [(h, .inr (4, [.ref hk, .ref hfw, .ref hfg, .ref hwb, .ref hld, .ref hte, .ref hpu, .int (nI n), .int hwa, .int (nI m), .ref hnu, .int hto])), (hwb, .inl (V.2.2.1, 7, .inl wb))] (fun (r : Int32) (u : Unit) => r = hasF (wb a) b) (fun u => [(h, .inr (4, [.ref hk, .ref hfw, .ref hfg, .ref hwb, .ref hld, .ref hte, .ref hpu, .int (nI n), .int hwa, .int (nI m), .ref hnu, .int hto])), (hwb, .inl (V.2.2.1, 7, .inl wb))]) := by
  refine Ki.of [some (.ref h), some (.int (nI a)), some (.int (nI b))] (by decide) (Nat.le_of_ble_eq_true rfl) rfl rfl ?_
  intro Z X E
  have X : gX V Z RX4 cX4_hasWall 3 ({ frames := 1, cells := 0, slots := 0, locals := 21 }) := X
  refine g_aload_n X dX4_hasWall_0 rfl ?_
  refine g_get X uwX4 0 rfl rfl 3 (by decide) kl_X4_21 rfl rfl gwX4 dX4_hasWall_1 ?_
  refine g_iload_n X dX4_hasWall_4 rfl ?_
  refine g_callNi X (c_X10_at V hwb 7 wb a (by omega) (by decide)) mo_X10_at kl_X4_70 [1] [0, 1] rfl (by decide +kernel) rfl rfl (fun _ => Nat.le_of_ble_eq_true rfl) (As := [.ref hwb, .int (nI a)]) (st := []) (cs' := (0, 0)) rfl rfl rfl dX4_hasWall_5 (fun r_5 u_1 hp_2 ws_4 hw_3 => ?_)
  obtain rfl : r_5 = wb a := hp_2
  have hw_3x : ws_4 = [(h, .inr (4, [.ref hk, .ref hfw, .ref hfg, .ref hwb, .ref hld, .ref hte, .ref hpu, .int (nI n), .int hwa, .int (nI m), .ref hnu, .int hto])), (hwb, .inl (V.2.2.1, 7, .inl wb))] := hw_3.symm
  clear hw_3; subst hw_3x
  refine g_iload_n X dX4_hasWall_8 rfl ?_
  refine g_ishr X dX4_hasWall_9 ?_
  refine g_iconst X (1) dX4_hasWall_10 (by decide) ?_
  refine g_iand X dX4_hasWall_11 ?_
  refine g_iconst X (1) dX4_hasWall_12 (by decide) ?_
  refine g_icmp_ne X 20 dX4_hasWall_13 (by decide) (fun c13_6 => ?_) (fun c13_6 => ?_)
  · refine g_iconst X (0) dX4_hasWall_20 (by decide) ?_
    exact g_zret X E dX4_hasWall_21 () 0 rfl (by first | rfl | (simp [hasF, c13_6]; done)) rfl
  · refine g_iconst X (1) dX4_hasWall_16 (by decide) ?_
    refine g_goto X 21 dX4_hasWall_17 (by decide) ?_
    exact g_zret X E dX4_hasWall_21 () 1 rfl (by first | rfl | (simp [hasF, c13_6]; done)) rfl

set_option maxHeartbeats 4000000 in
set_option maxRecDepth 100000 in
theorem c_X4_kindOf (V : gV) (h : Nat) (hk : Nat) (hfw : Nat) (hfg : Nat) (hwb : Nat) (hld : Nat) (hte : Nat) (hpu : Nat) (hnu : Nat) (n : Nat) (m : Nat) (hwa : Int32) (hto : Int32) (k : Nat → Int32) (c : Nat) (hc : c < 7) : Ki V yX4_kindOf cX4_kindOf 2 .int ({ frames := 1, cells := 0, slots := 0, locals := 21 }) [.ref h, .int (nI c)] [(h, .inr (4, [.ref hk, .ref hfw, .ref hfg, .ref hwb, .ref hld, .ref hte, .ref hpu, .int (nI n), .int hwa, .int (nI m), .ref hnu, .int hto])), (hk, .inl (V.2.2.1, 7, .inl k))] (fun (r : Int32) (u : Unit) => r = k c) (fun u => [(h, .inr (4, [.ref hk, .ref hfw, .ref hfg, .ref hwb, .ref hld, .ref hte, .ref hpu, .int (nI n), .int hwa, .int (nI m), .ref hnu, .int hto])), (hk, .inl (V.2.2.1, 7, .inl k))]) := by
  refine Ki.of [some (.ref h), some (.int (nI c))] (by decide) (Nat.le_of_ble_eq_true rfl) rfl rfl ?_
  intro Z X E
  have X : gX V Z RX4 cX4_kindOf 2 ({ frames := 1, cells := 0, slots := 0, locals := 21 }) := X
  refine g_aload_n X dX4_kindOf_0 rfl ?_
  refine g_get X uwX4 0 rfl rfl 0 (by decide) kl_X4_9 rfl rfl gwX4 dX4_kindOf_1 ?_
  refine g_iload_n X dX4_kindOf_4 rfl ?_
  refine g_callNi X (c_X10_at V hk 7 k c (by omega) (by decide)) mo_X10_at kl_X4_70 [1] [0, 1] rfl (by decide +kernel) rfl rfl (fun _ => Nat.le_of_ble_eq_true rfl) (As := [.ref hk, .int (nI c)]) (st := []) (cs' := (0, 0)) rfl rfl rfl dX4_kindOf_5 (fun r_5 u_1 hp_2 ws_4 hw_3 => ?_)
  obtain rfl : r_5 = k c := hp_2
  have hw_3x : ws_4 = [(h, .inr (4, [.ref hk, .ref hfw, .ref hfg, .ref hwb, .ref hld, .ref hte, .ref hpu, .int (nI n), .int hwa, .int (nI m), .ref hnu, .int hto])), (hk, .inl (V.2.2.1, 7, .inl k))] := hw_3.symm
  clear hw_3; subst hw_3x
  exact g_iret X E dX4_kindOf_8 () (k c) (by first | rfl | (simp []; done)) rfl

set_option maxHeartbeats 4000000 in
set_option maxRecDepth 100000 in
theorem c_X8_drawNearer (V : gV) (s : Nat) (sw : Nat) (sg : Nat) (day : Int32) (w : Nat → Int32) (h : Nat) (a : Nat) (b : Nat) (ha : a < 7) (hb : b < 7) (hab : a ≠ b) : Kv V yX8_drawNearer cX8_drawNearer 6 ({ frames := 2, cells := 0, slots := 0, locals := 44 }) [.ref s, .int (nI a), .int (nI b)] [(s, .inr (8, [.ref h, .ref sw, .ref sg, .int day])), (sw, .inl (V.2.2.1, 7, .inl w))] (fun u : (Nat → Int32) => u = nearF a b w) (fun u => [(s, .inr (8, [.ref h, .ref sw, .ref sg, .int day])), (sw, .inl (V.2.2.1, 7, .inl u))]) := by
  refine Kv.of [some (.ref s), some (.int (nI a)), some (.int (nI b)), none, none, none] (by decide) (Nat.le_of_ble_eq_true rfl) rfl rfl ?_
  intro Z X E
  have X : gX V Z RX8 cX8_drawNearer 6 ({ frames := 2, cells := 0, slots := 0, locals := 44 }) := X
  refine g_aload_n X dX8_drawNearer_0 rfl ?_
  refine g_iload_n X dX8_drawNearer_1 rfl ?_
  refine g_iload_n X dX8_drawNearer_2 rfl ?_
  refine g_callVi X (c_X8_minutesApart V s sw sg day w h a b (by omega) (by omega)) mo_X8_minutesApart kl_X8_110 [0, 1] [1, 2] rfl (by decide +kernel) rfl rfl (fun _ => Nat.le_of_ble_eq_true rfl) 0 8 rfl rfl (As := [.int (nI a), .int (nI b)]) (st := []) (cs' := (0, 0)) rfl rfl rfl rfl dX8_drawNearer_3 (fun r_5 u_1 hp_2 ws_4 hw_3 => ?_)
  obtain rfl : r_5 = apartF w a b := hp_2
  have hw_3x : ws_4 = [(s, .inr (8, [.ref h, .ref sw, .ref sg, .int day])), (sw, .inl (V.2.2.1, 7, .inl w))] := hw_3.symm
  clear hw_3; subst hw_3x
  refine g_istore_n X (L' := [some (.ref s), some (.int (nI a)), some (.int (nI b)), some (.int (apartF w a b)), none, none]) dX8_drawNearer_6 (by decide) rfl rfl ?_
  refine g_aload_n X dX8_drawNearer_7 rfl ?_
  refine g_iload_n X dX8_drawNearer_8 rfl ?_
  refine g_callVi X (c_X8_wrongOf V s sw sg day w h a (by omega)) mo_X8_wrongOf kl_X8_85 [0, 1] [1, 2] rfl (by decide +kernel) rfl rfl (fun _ => Nat.le_of_ble_eq_true rfl) 0 8 rfl rfl (As := [.int (nI a)]) (st := []) (cs' := (0, 0)) rfl rfl rfl rfl dX8_drawNearer_9 (fun r_10 u_6 hp_7 ws_9 hw_8 => ?_)
  obtain rfl : r_10 = w a := hp_7
  have hw_8x : ws_9 = [(s, .inr (8, [.ref h, .ref sw, .ref sg, .int day])), (sw, .inl (V.2.2.1, 7, .inl w))] := hw_8.symm
  clear hw_8; subst hw_8x
  refine g_aload_n X dX8_drawNearer_12 rfl ?_
  refine g_iload_n X dX8_drawNearer_13 rfl ?_
  refine g_callVi X (c_X8_wrongOf V s sw sg day w h b (by omega)) mo_X8_wrongOf kl_X8_85 [0, 1] [1, 2] rfl (by decide +kernel) rfl rfl (fun _ => Nat.le_of_ble_eq_true rfl) 0 8 rfl rfl (As := [.int (nI b)]) (st := [.int (w a)]) (cs' := (0, 0)) rfl rfl rfl rfl dX8_drawNearer_14 (fun r_15 u_11 hp_12 ws_14 hw_13 => ?_)
  obtain rfl : r_15 = w b := hp_12
  have hw_13x : ws_14 = [(s, .inr (8, [.ref h, .ref sw, .ref sg, .int day])), (sw, .inl (V.2.2.1, 7, .inl w))] := hw_13.symm
  clear hw_13; subst hw_13x
  refine g_icmp_le X 24 dX8_drawNearer_17 (by decide) (fun c17_16 => ?_) (fun c17_16 => ?_)
  · have c17_16d := Int32.not_lt.mpr c17_16
    refine g_iload_n X dX8_drawNearer_24 rfl ?_
    refine g_istore X (L' := [some (.ref s), some (.int (nI a)), some (.int (nI b)), some (.int (apartF w a b)), some (.int (nI b)), none]) dX8_drawNearer_25 (by decide) rfl rfl ?_
    refine g_iload X dX8_drawNearer_27 rfl ?_
    refine g_iload_n X dX8_drawNearer_29 rfl ?_
    refine g_icmp_ne X 37 dX8_drawNearer_30 (by decide) (fun c30_17 => ?_) (fun c30_17 => absurd c30_17 (tne (a := b) (b := a) (by omega) (by omega) (by omega)))
    refine g_iload_n X dX8_drawNearer_37 rfl ?_
    refine g_istore X (L' := [some (.ref s), some (.int (nI a)), some (.int (nI b)), some (.int (apartF w a b)), some (.int (nI b)), some (.int (nI a))]) dX8_drawNearer_38 (by decide) rfl rfl ?_
    refine g_iload_n X dX8_drawNearer_40 rfl ?_
    refine g_if_le X 58 dX8_drawNearer_41 (by decide) (fun c41_18 => ?_) (fun c41_18 => ?_)
    · have c41_18d := Int32.not_lt.mpr c41_18
      refine g_iload_n X dX8_drawNearer_58 rfl ?_
      refine g_iconst X (1) dX8_drawNearer_59 (by decide) ?_
      refine g_icmp_le X 77 dX8_drawNearer_60 (by decide) (fun c60_19 => ?_) (fun c60_19 => ?_)
      · have c60_19d := Int32.not_lt.mpr c60_19
        exact g_vret X E dX8_drawNearer_77 w (by simp [nearF, *]) rfl
      · have c60_19d := Int32.not_le.mp c60_19
        refine g_aload_n X dX8_drawNearer_63 rfl ?_
        refine g_iload X dX8_drawNearer_64 rfl ?_
        refine g_aload_n X dX8_drawNearer_66 rfl ?_
        refine g_iload X dX8_drawNearer_67 rfl ?_
        refine g_callVi X (c_X8_wrongOf V s sw sg day w h a (by omega)) mo_X8_wrongOf kl_X8_85 [0, 1] [1, 2] rfl (by decide +kernel) rfl rfl (fun _ => Nat.le_of_ble_eq_true rfl) 0 8 rfl rfl (As := [.int (nI a)]) (st := [.int (nI a), .ref s]) (cs' := (0, 0)) rfl rfl rfl rfl dX8_drawNearer_69 (fun r_24 u_20 hp_21 ws_23 hw_22 => ?_)
        obtain rfl : r_24 = w a := hp_21
        have hw_22x : ws_23 = [(s, .inr (8, [.ref h, .ref sw, .ref sg, .int day])), (sw, .inl (V.2.2.1, 7, .inl w))] := hw_22.symm
        clear hw_22; subst hw_22x
        refine g_iconst X (1) dX8_drawNearer_72 (by decide) ?_
        refine g_iadd X dX8_drawNearer_73 ?_
        refine g_callVv X (c_X8_makeWrong V s sw sg day w h a ((w a) + 1) (by omega)) mo_X8_makeWrong kl_X8_58 [0, 1] [1, 2] rfl (by decide +kernel) rfl rfl (fun _ => Nat.le_of_ble_eq_true rfl) 0 8 rfl rfl (As := [.int (nI a), .int ((w a) + 1)]) (st := []) (cs' := (0, 0)) rfl rfl rfl rfl dX8_drawNearer_74 (fun nw_25 hp_26 ws_28 hw_27 => ?_)
        obtain rfl : nw_25 = upd w a (clampF ((w a) + 1)) := hp_26
        have hw_27x : ws_28 = [(s, .inr (8, [.ref h, .ref sw, .ref sg, .int day])), (sw, .inl (V.2.2.1, 7, .inl (upd w a (clampF ((w a) + 1)))))] := hw_27.symm
        clear hw_27; subst hw_27x
        exact g_vret X E dX8_drawNearer_77 (upd w a (clampF ((w a) + 1))) (by simp [nearF, *]) rfl
    · have c41_18d := Int32.not_le.mp c41_18
      refine g_aload_n X dX8_drawNearer_44 rfl ?_
      refine g_iload X dX8_drawNearer_45 rfl ?_
      refine g_aload_n X dX8_drawNearer_47 rfl ?_
      refine g_iload X dX8_drawNearer_48 rfl ?_
      refine g_callVi X (c_X8_wrongOf V s sw sg day w h b (by omega)) mo_X8_wrongOf kl_X8_85 [0, 1] [1, 2] rfl (by decide +kernel) rfl rfl (fun _ => Nat.le_of_ble_eq_true rfl) 0 8 rfl rfl (As := [.int (nI b)]) (st := [.int (nI b), .ref s]) (cs' := (0, 0)) rfl rfl rfl rfl dX8_drawNearer_50 (fun r_34 u_30 hp_31 ws_33 hw_32 => ?_)
      obtain rfl : r_34 = w b := hp_31
      have hw_32x : ws_33 = [(s, .inr (8, [.ref h, .ref sw, .ref sg, .int day])), (sw, .inl (V.2.2.1, 7, .inl w))] := hw_32.symm
      clear hw_32; subst hw_32x
      refine g_iconst X (1) dX8_drawNearer_53 (by decide) ?_
      refine g_isub X dX8_drawNearer_54 ?_
      refine g_callVv X (c_X8_makeWrong V s sw sg day w h b ((w b) - 1) (by omega)) mo_X8_makeWrong kl_X8_58 [0, 1] [1, 2] rfl (by decide +kernel) rfl rfl (fun _ => Nat.le_of_ble_eq_true rfl) 0 8 rfl rfl (As := [.int (nI b), .int ((w b) - 1)]) (st := []) (cs' := (0, 0)) rfl rfl rfl rfl dX8_drawNearer_55 (fun nw_35 hp_36 ws_38 hw_37 => ?_)
      obtain rfl : nw_35 = upd w b (clampF ((w b) - 1)) := hp_36
      have hw_37x : ws_38 = [(s, .inr (8, [.ref h, .ref sw, .ref sg, .int day])), (sw, .inl (V.2.2.1, 7, .inl (upd w b (clampF ((w b) - 1)))))] := hw_37.symm
      clear hw_37; subst hw_37x
      refine g_iload_n X dX8_drawNearer_58 rfl ?_
      refine g_iconst X (1) dX8_drawNearer_59 (by decide) ?_
      refine g_icmp_le X 77 dX8_drawNearer_60 (by decide) (fun c60_40 => ?_) (fun c60_40 => ?_)
      · have c60_40d := Int32.not_lt.mpr c60_40
        exact g_vret X E dX8_drawNearer_77 (upd w b (clampF ((w b) - 1))) (by simp [nearF, *]) rfl
      · have c60_40d := Int32.not_le.mp c60_40
        refine g_aload_n X dX8_drawNearer_63 rfl ?_
        refine g_iload X dX8_drawNearer_64 rfl ?_
        refine g_aload_n X dX8_drawNearer_66 rfl ?_
        refine g_iload X dX8_drawNearer_67 rfl ?_
        refine g_callVi X (c_X8_wrongOf V s sw sg day (upd w b (clampF ((w b) - 1))) h a (by omega)) mo_X8_wrongOf kl_X8_85 [0, 1] [1, 2] rfl (by decide +kernel) rfl rfl (fun _ => Nat.le_of_ble_eq_true rfl) 0 8 rfl rfl (As := [.int (nI a)]) (st := [.int (nI a), .ref s]) (cs' := (0, 0)) rfl rfl rfl rfl dX8_drawNearer_69 (fun r_45 u_41 hp_42 ws_44 hw_43 => ?_)
        obtain rfl : r_45 = (upd w b (clampF ((w b) - 1))) a := hp_42
        have hw_43x : ws_44 = [(s, .inr (8, [.ref h, .ref sw, .ref sg, .int day])), (sw, .inl (V.2.2.1, 7, .inl (upd w b (clampF ((w b) - 1)))))] := hw_43.symm
        clear hw_43; subst hw_43x
        refine g_iconst X (1) dX8_drawNearer_72 (by decide) ?_
        refine g_iadd X dX8_drawNearer_73 ?_
        refine g_callVv X (c_X8_makeWrong V s sw sg day (upd w b (clampF ((w b) - 1))) h a (((upd w b (clampF ((w b) - 1))) a) + 1) (by omega)) mo_X8_makeWrong kl_X8_58 [0, 1] [1, 2] rfl (by decide +kernel) rfl rfl (fun _ => Nat.le_of_ble_eq_true rfl) 0 8 rfl rfl (As := [.int (nI a), .int (((upd w b (clampF ((w b) - 1))) a) + 1)]) (st := []) (cs' := (0, 0)) rfl rfl rfl rfl dX8_drawNearer_74 (fun nw_46 hp_47 ws_49 hw_48 => ?_)
        obtain rfl : nw_46 = upd (upd w b (clampF ((w b) - 1))) a (clampF (((upd w b (clampF ((w b) - 1))) a) + 1)) := hp_47
        have hw_48x : ws_49 = [(s, .inr (8, [.ref h, .ref sw, .ref sg, .int day])), (sw, .inl (V.2.2.1, 7, .inl (upd (upd w b (clampF ((w b) - 1))) a (clampF (((upd w b (clampF ((w b) - 1))) a) + 1)))))] := hw_48.symm
        clear hw_48; subst hw_48x
        exact g_vret X E dX8_drawNearer_77 (upd (upd w b (clampF ((w b) - 1))) a (clampF (((upd w b (clampF ((w b) - 1))) a) + 1))) (by simp [nearF, *]) rfl
  · have c17_16d := Int32.not_le.mp c17_16
    refine g_iload_n X dX8_drawNearer_20 rfl ?_
    refine g_goto X 25 dX8_drawNearer_21 (by decide) ?_
    refine g_istore X (L' := [some (.ref s), some (.int (nI a)), some (.int (nI b)), some (.int (apartF w a b)), some (.int (nI a)), none]) dX8_drawNearer_25 (by decide) rfl rfl ?_
    refine g_iload X dX8_drawNearer_27 rfl ?_
    refine g_iload_n X dX8_drawNearer_29 rfl ?_
    refine g_icmp_ne X 37 dX8_drawNearer_30 (by decide) (fun c30_51 => absurd (teq (a := a) (b := a) (by omega) (by omega) (by omega)) c30_51) (fun c30_51 => ?_)
    refine g_iload_n X dX8_drawNearer_33 rfl ?_
    refine g_goto X 38 dX8_drawNearer_34 (by decide) ?_
    refine g_istore X (L' := [some (.ref s), some (.int (nI a)), some (.int (nI b)), some (.int (apartF w a b)), some (.int (nI a)), some (.int (nI b))]) dX8_drawNearer_38 (by decide) rfl rfl ?_
    refine g_iload_n X dX8_drawNearer_40 rfl ?_
    refine g_if_le X 58 dX8_drawNearer_41 (by decide) (fun c41_52 => ?_) (fun c41_52 => ?_)
    · have c41_52d := Int32.not_lt.mpr c41_52
      refine g_iload_n X dX8_drawNearer_58 rfl ?_
      refine g_iconst X (1) dX8_drawNearer_59 (by decide) ?_
      refine g_icmp_le X 77 dX8_drawNearer_60 (by decide) (fun c60_53 => ?_) (fun c60_53 => ?_)
      · have c60_53d := Int32.not_lt.mpr c60_53
        exact g_vret X E dX8_drawNearer_77 w (by simp [nearF, *]) rfl
      · have c60_53d := Int32.not_le.mp c60_53
        refine g_aload_n X dX8_drawNearer_63 rfl ?_
        refine g_iload X dX8_drawNearer_64 rfl ?_
        refine g_aload_n X dX8_drawNearer_66 rfl ?_
        refine g_iload X dX8_drawNearer_67 rfl ?_
        refine g_callVi X (c_X8_wrongOf V s sw sg day w h b (by omega)) mo_X8_wrongOf kl_X8_85 [0, 1] [1, 2] rfl (by decide +kernel) rfl rfl (fun _ => Nat.le_of_ble_eq_true rfl) 0 8 rfl rfl (As := [.int (nI b)]) (st := [.int (nI b), .ref s]) (cs' := (0, 0)) rfl rfl rfl rfl dX8_drawNearer_69 (fun r_58 u_54 hp_55 ws_57 hw_56 => ?_)
        obtain rfl : r_58 = w b := hp_55
        have hw_56x : ws_57 = [(s, .inr (8, [.ref h, .ref sw, .ref sg, .int day])), (sw, .inl (V.2.2.1, 7, .inl w))] := hw_56.symm
        clear hw_56; subst hw_56x
        refine g_iconst X (1) dX8_drawNearer_72 (by decide) ?_
        refine g_iadd X dX8_drawNearer_73 ?_
        refine g_callVv X (c_X8_makeWrong V s sw sg day w h b ((w b) + 1) (by omega)) mo_X8_makeWrong kl_X8_58 [0, 1] [1, 2] rfl (by decide +kernel) rfl rfl (fun _ => Nat.le_of_ble_eq_true rfl) 0 8 rfl rfl (As := [.int (nI b), .int ((w b) + 1)]) (st := []) (cs' := (0, 0)) rfl rfl rfl rfl dX8_drawNearer_74 (fun nw_59 hp_60 ws_62 hw_61 => ?_)
        obtain rfl : nw_59 = upd w b (clampF ((w b) + 1)) := hp_60
        have hw_61x : ws_62 = [(s, .inr (8, [.ref h, .ref sw, .ref sg, .int day])), (sw, .inl (V.2.2.1, 7, .inl (upd w b (clampF ((w b) + 1)))))] := hw_61.symm
        clear hw_61; subst hw_61x
        exact g_vret X E dX8_drawNearer_77 (upd w b (clampF ((w b) + 1))) (by simp [nearF, *]) rfl
    · have c41_52d := Int32.not_le.mp c41_52
      refine g_aload_n X dX8_drawNearer_44 rfl ?_
      refine g_iload X dX8_drawNearer_45 rfl ?_
      refine g_aload_n X dX8_drawNearer_47 rfl ?_
      refine g_iload X dX8_drawNearer_48 rfl ?_
      refine g_callVi X (c_X8_wrongOf V s sw sg day w h a (by omega)) mo_X8_wrongOf kl_X8_85 [0, 1] [1, 2] rfl (by decide +kernel) rfl rfl (fun _ => Nat.le_of_ble_eq_true rfl) 0 8 rfl rfl (As := [.int (nI a)]) (st := [.int (nI a), .ref s]) (cs' := (0, 0)) rfl rfl rfl rfl dX8_drawNearer_50 (fun r_68 u_64 hp_65 ws_67 hw_66 => ?_)
      obtain rfl : r_68 = w a := hp_65
      have hw_66x : ws_67 = [(s, .inr (8, [.ref h, .ref sw, .ref sg, .int day])), (sw, .inl (V.2.2.1, 7, .inl w))] := hw_66.symm
      clear hw_66; subst hw_66x
      refine g_iconst X (1) dX8_drawNearer_53 (by decide) ?_
      refine g_isub X dX8_drawNearer_54 ?_
      refine g_callVv X (c_X8_makeWrong V s sw sg day w h a ((w a) - 1) (by omega)) mo_X8_makeWrong kl_X8_58 [0, 1] [1, 2] rfl (by decide +kernel) rfl rfl (fun _ => Nat.le_of_ble_eq_true rfl) 0 8 rfl rfl (As := [.int (nI a), .int ((w a) - 1)]) (st := []) (cs' := (0, 0)) rfl rfl rfl rfl dX8_drawNearer_55 (fun nw_69 hp_70 ws_72 hw_71 => ?_)
      obtain rfl : nw_69 = upd w a (clampF ((w a) - 1)) := hp_70
      have hw_71x : ws_72 = [(s, .inr (8, [.ref h, .ref sw, .ref sg, .int day])), (sw, .inl (V.2.2.1, 7, .inl (upd w a (clampF ((w a) - 1)))))] := hw_71.symm
      clear hw_71; subst hw_71x
      refine g_iload_n X dX8_drawNearer_58 rfl ?_
      refine g_iconst X (1) dX8_drawNearer_59 (by decide) ?_
      refine g_icmp_le X 77 dX8_drawNearer_60 (by decide) (fun c60_74 => ?_) (fun c60_74 => ?_)
      · have c60_74d := Int32.not_lt.mpr c60_74
        exact g_vret X E dX8_drawNearer_77 (upd w a (clampF ((w a) - 1))) (by simp [nearF, *]) rfl
      · have c60_74d := Int32.not_le.mp c60_74
        refine g_aload_n X dX8_drawNearer_63 rfl ?_
        refine g_iload X dX8_drawNearer_64 rfl ?_
        refine g_aload_n X dX8_drawNearer_66 rfl ?_
        refine g_iload X dX8_drawNearer_67 rfl ?_
        refine g_callVi X (c_X8_wrongOf V s sw sg day (upd w a (clampF ((w a) - 1))) h b (by omega)) mo_X8_wrongOf kl_X8_85 [0, 1] [1, 2] rfl (by decide +kernel) rfl rfl (fun _ => Nat.le_of_ble_eq_true rfl) 0 8 rfl rfl (As := [.int (nI b)]) (st := [.int (nI b), .ref s]) (cs' := (0, 0)) rfl rfl rfl rfl dX8_drawNearer_69 (fun r_79 u_75 hp_76 ws_78 hw_77 => ?_)
        obtain rfl : r_79 = (upd w a (clampF ((w a) - 1))) b := hp_76
        have hw_77x : ws_78 = [(s, .inr (8, [.ref h, .ref sw, .ref sg, .int day])), (sw, .inl (V.2.2.1, 7, .inl (upd w a (clampF ((w a) - 1)))))] := hw_77.symm
        clear hw_77; subst hw_77x
        refine g_iconst X (1) dX8_drawNearer_72 (by decide) ?_
        refine g_iadd X dX8_drawNearer_73 ?_
        refine g_callVv X (c_X8_makeWrong V s sw sg day (upd w a (clampF ((w a) - 1))) h b (((upd w a (clampF ((w a) - 1))) b) + 1) (by omega)) mo_X8_makeWrong kl_X8_58 [0, 1] [1, 2] rfl (by decide +kernel) rfl rfl (fun _ => Nat.le_of_ble_eq_true rfl) 0 8 rfl rfl (As := [.int (nI b), .int (((upd w a (clampF ((w a) - 1))) b) + 1)]) (st := []) (cs' := (0, 0)) rfl rfl rfl rfl dX8_drawNearer_74 (fun nw_80 hp_81 ws_83 hw_82 => ?_)
        obtain rfl : nw_80 = upd (upd w a (clampF ((w a) - 1))) b (clampF (((upd w a (clampF ((w a) - 1))) b) + 1)) := hp_81
        have hw_82x : ws_83 = [(s, .inr (8, [.ref h, .ref sw, .ref sg, .int day])), (sw, .inl (V.2.2.1, 7, .inl (upd (upd w a (clampF ((w a) - 1))) b (clampF (((upd w a (clampF ((w a) - 1))) b) + 1)))))] := hw_82.symm
        clear hw_82; subst hw_82x
        exact g_vret X E dX8_drawNearer_77 (upd (upd w a (clampF ((w a) - 1))) b (clampF (((upd w a (clampF ((w a) - 1))) b) + 1))) (by simp [nearF, *]) rfl

set_option maxHeartbeats 4000000 in
set_option maxRecDepth 100000 in
theorem c_X8_oilOnce (V : gV) (s : Nat) (sw : Nat) (sg : Nat) (day : Int32) (g : Nat → Int32) (h : Nat) (c : Nat) (hc : c < 7) : Kv V yX8_oilOnce cX8_oilOnce 3 ({ frames := 2, cells := 0, slots := 0, locals := 42 }) [.ref s, .int (nI c)] [(s, .inr (8, [.ref h, .ref sw, .ref sg, .int day])), (sg, .inl (V.2.2.1, 7, .inl g))] (fun u : (Nat → Int32) => u = (if g c = 0 then g else upd g c (oilF (g c)))) (fun u => [(s, .inr (8, [.ref h, .ref sw, .ref sg, .int day])), (sg, .inl (V.2.2.1, 7, .inl u))]) := by
  refine Kv.of [some (.ref s), some (.int (nI c)), none] (by decide) (Nat.le_of_ble_eq_true rfl) rfl rfl ?_
  intro Z X E
  have X : gX V Z RX8 cX8_oilOnce 3 ({ frames := 2, cells := 0, slots := 0, locals := 42 }) := X
  refine g_aload_n X dX8_oilOnce_0 rfl ?_
  refine g_iload_n X dX8_oilOnce_1 rfl ?_
  refine g_callVi X (c_X8_gainOf V s sw sg day g h c (by omega)) mo_X8_gainOf kl_X8_62 [0, 1] [1, 2] rfl (by decide +kernel) rfl rfl (fun _ => Nat.le_of_ble_eq_true rfl) 0 8 rfl rfl (As := [.int (nI c)]) (st := []) (cs' := (0, 0)) rfl rfl rfl rfl dX8_oilOnce_2 (fun r_5 u_1 hp_2 ws_4 hw_3 => ?_)
  obtain rfl : r_5 = g c := hp_2
  have hw_3x : ws_4 = [(s, .inr (8, [.ref h, .ref sw, .ref sg, .int day])), (sg, .inl (V.2.2.1, 7, .inl g))] := hw_3.symm
  clear hw_3; subst hw_3x
  refine g_istore_n X (L' := [some (.ref s), some (.int (nI c)), some (.int (g c))]) dX8_oilOnce_5 (by decide) rfl rfl ?_
  refine g_iload_n X dX8_oilOnce_6 rfl ?_
  refine g_if_eq X 31 dX8_oilOnce_7 (by decide) (fun c7_6 => ?_) (fun c7_6 => ?_)
  · exact g_vret X E dX8_oilOnce_31 g (by simp [oilF, *]) rfl
  · refine g_aload_n X dX8_oilOnce_10 rfl ?_
    refine g_get X uwX8 0 rfl rfl 2 (by decide) kl_X8_15 rfl rfl gwX8 dX8_oilOnce_11 ?_
    refine g_iload_n X dX8_oilOnce_14 rfl ?_
    refine g_iload_n X dX8_oilOnce_15 rfl ?_
    refine g_if_le X 25 dX8_oilOnce_16 (by decide) (fun c16_7 => ?_) (fun c16_7 => ?_)
    · have c16_7d := Int32.not_lt.mpr c16_7
      refine g_iload_n X dX8_oilOnce_25 rfl ?_
      refine g_iconst X (1) dX8_oilOnce_26 (by decide) ?_
      refine g_iadd X dX8_oilOnce_27 ?_
      refine g_callNv X (c_X10_put V sg 7 g c ((g c) + 1) (by omega) (by decide)) mo_X10_put kl_X8_35 [1] [0, 1] rfl (by decide +kernel) rfl rfl (fun _ => Nat.le_of_ble_eq_true rfl) (As := [.ref sg, .int (nI c), .int ((g c) + 1)]) (st := []) (cs' := (0, 0)) rfl rfl rfl dX8_oilOnce_28 (fun nf_8 hp_9 ws_11 hw_10 => ?_)
      obtain rfl : nf_8 = upd g c ((g c) + 1) := hp_9
      have hw_10x : ws_11 = [(s, .inr (8, [.ref h, .ref sw, .ref sg, .int day])), (sg, .inl (V.2.2.1, 7, .inl (upd g c ((g c) + 1))))] := hw_10.symm
      clear hw_10; subst hw_10x
      exact g_vret X E dX8_oilOnce_31 (upd g c ((g c) + 1)) (by simp [oilF, *]) rfl
    · have c16_7d := Int32.not_le.mp c16_7
      refine g_iload_n X dX8_oilOnce_19 rfl ?_
      refine g_iconst X (1) dX8_oilOnce_20 (by decide) ?_
      refine g_isub X dX8_oilOnce_21 ?_
      refine g_goto X 28 dX8_oilOnce_22 (by decide) ?_
      refine g_callNv X (c_X10_put V sg 7 g c ((g c) - 1) (by omega) (by decide)) mo_X10_put kl_X8_35 [1] [0, 1] rfl (by decide +kernel) rfl rfl (fun _ => Nat.le_of_ble_eq_true rfl) (As := [.ref sg, .int (nI c), .int ((g c) - 1)]) (st := []) (cs' := (0, 0)) rfl rfl rfl dX8_oilOnce_28 (fun nf_13 hp_14 ws_16 hw_15 => ?_)
      obtain rfl : nf_13 = upd g c ((g c) - 1) := hp_14
      have hw_15x : ws_16 = [(s, .inr (8, [.ref h, .ref sw, .ref sg, .int day])), (sg, .inl (V.2.2.1, 7, .inl (upd g c ((g c) - 1))))] := hw_15.symm
      clear hw_15; subst hw_15x
      exact g_vret X E dX8_oilOnce_31 (upd g c ((g c) - 1)) (by simp [oilF, *]) rfl

set_option maxHeartbeats 4000000 in
set_option maxRecDepth 100000 in
theorem c_X8_learnAllTold (V : gV) (s : Nat) (sw : Nat) (sg : Nat) (day : Int32) (w : Nat → Int32) (h : Nat) (hk : Nat) (hfw : Nat) (hfg : Nat) (hwb : Nat) (hld : Nat) (hte : Nat) (hpu : Nat) (hnu : Nat) (n : Nat) (m : Nat) (hwa : Int32) (hto : Int32) (k : Nat → Int32) (ld : Nat → Nat) (te : Nat → Nat) (pu : Nat → Nat) (hn : n ≤ 7) (hm : m ≤ 9) (ht : ∀ i, i < m → te i < n ∧ pu i < n) : Kv V yX8_learnAllTold cX8_learnAllTold 3 ({ frames := 3, cells := 0, slots := 0, locals := 67 }) [.ref s] [(s, .inr (8, [.ref h, .ref sw, .ref sg, .int day])), (sw, .inl (V.2.2.1, 7, .inl w)), (h, .inr (4, [.ref hk, .ref hfw, .ref hfg, .ref hwb, .ref hld, .ref hte, .ref hpu, .int (nI n), .int hwa, .int (nI m), .ref hnu, .int hto])), (hk, .inl (V.2.2.1, 7, .inl k)), (hld, .inl (V.2.2.1, 9, .inl (nIf ld))), (hte, .inl (V.2.2.1, 9, .inl (nIf te))), (hpu, .inl (V.2.2.1, 9, .inl (nIf pu)))] (fun u : (Nat → Int32) => u = toldF k ld te pu m day w) (fun u => [(s, .inr (8, [.ref h, .ref sw, .ref sg, .int day])), (sw, .inl (V.2.2.1, 7, .inl u)), (h, .inr (4, [.ref hk, .ref hfw, .ref hfg, .ref hwb, .ref hld, .ref hte, .ref hpu, .int (nI n), .int hwa, .int (nI m), .ref hnu, .int hto])), (hk, .inl (V.2.2.1, 7, .inl k)), (hld, .inl (V.2.2.1, 9, .inl (nIf ld))), (hte, .inl (V.2.2.1, 9, .inl (nIf te))), (hpu, .inl (V.2.2.1, 9, .inl (nIf pu)))]) := by
  refine Kv.of [some (.ref s), none, none] (by decide) (Nat.le_of_ble_eq_true rfl) rfl rfl ?_
  intro Z X E
  have X : gX V Z RX8 cX8_learnAllTold 3 ({ frames := 3, cells := 0, slots := 0, locals := 67 }) := X
  refine g_aload_n X dX8_learnAllTold_0 rfl ?_
  refine g_get X uwX8 0 rfl rfl 3 (by decide) kl_X8_18 rfl rfl gwX8 dX8_learnAllTold_1 ?_
  refine g_bipush X (14) dX8_learnAllTold_4 (by decide) ?_
  refine g_rem X dX8_learnAllTold_6 (by decide) ?_
  refine g_istore_n X (L' := [some (.ref s), some (.int (remI day 14)), none]) dX8_learnAllTold_7 (by decide) rfl rfl ?_
  refine g_iconst X (0) dX8_learnAllTold_8 (by decide) ?_
  refine g_istore_n X (L' := [some (.ref s), some (.int (remI day 14)), some (.int 0)]) dX8_learnAllTold_9 (by decide) rfl rfl ?_
  have loop10 : ∀ (d10 i : Nat), i + d10 = m → ∀ (w1 : Nat → Int32) (h1 : w1 = toldF k ld te pu i day w), G V Z 3 (0, 0) [(s, .inr (8, [.ref h, .ref sw, .ref sg, .int day])), (sw, .inl (V.2.2.1, 7, .inl w1)), (h, .inr (4, [.ref hk, .ref hfw, .ref hfg, .ref hwb, .ref hld, .ref hte, .ref hpu, .int (nI n), .int hwa, .int (nI m), .ref hnu, .int hto])), (hk, .inl (V.2.2.1, 7, .inl k)), (hld, .inl (V.2.2.1, 9, .inl (nIf ld))), (hte, .inl (V.2.2.1, 9, .inl (nIf te))), (hpu, .inl (V.2.2.1, 9, .inl (nIf pu)))] 10 [some (.ref s), some (.int (remI day 14)), some (.int (nI i))] [] := by
    intro d10
    induction d10 with
    | zero =>
      intro i hi w1 h1
      have ht0 := ht
      refine g_iload_n X dX8_learnAllTold_10 rfl ?_
      refine g_aload_n X dX8_learnAllTold_11 rfl ?_
      refine g_get X uwX8 0 rfl rfl 0 (by decide) kl_X8_22 rfl rfl gwX8 dX8_learnAllTold_12 ?_
      refine g_getN X uwX4 2 rfl rfl 9 (by decide) kl_X8_88 rfl rfl gwX4 dX8_learnAllTold_15 ?_
      refine g_icmp_ge X 68 dX8_learnAllTold_18 (by decide) (fun c18_1 => ?_) (fun c18_1 => absurd (tge (a := i) (b := m) (by omega) (by omega) (by omega)) c18_1)
      exact g_vret X E dX8_learnAllTold_68 w1 (by rw [show m = i by omega]; exact h1) rfl
    | succ d10 ih10 =>
      intro i hi w1 h1
      have ht0 := ht
      refine g_iload_n X dX8_learnAllTold_10 rfl ?_
      refine g_aload_n X dX8_learnAllTold_11 rfl ?_
      refine g_get X uwX8 0 rfl rfl 0 (by decide) kl_X8_22 rfl rfl gwX8 dX8_learnAllTold_12 ?_
      refine g_getN X uwX4 2 rfl rfl 9 (by decide) kl_X8_88 rfl rfl gwX4 dX8_learnAllTold_15 ?_
      refine g_icmp_ge X 68 dX8_learnAllTold_18 (by decide) (fun c18_2 => absurd c18_2 (fge (a := i) (b := m) (by omega) (by omega) (by omega))) (fun c18_2 => ?_)
      refine g_aload_n X dX8_learnAllTold_21 rfl ?_
      refine g_get X uwX8 0 rfl rfl 0 (by decide) kl_X8_22 rfl rfl gwX8 dX8_learnAllTold_22 ?_
      refine g_getN X uwX4 2 rfl rfl 4 (by decide) kl_X8_91 rfl rfl gwX4 dX8_learnAllTold_25 ?_
      refine g_iload_n X dX8_learnAllTold_28 rfl ?_
      refine g_callNi X (c_X10_at V hld 9 (nIf ld) i (by omega) (by decide)) mo_X10_at kl_X8_31 [4] [0, 0, 0, 0, 1, 0, 0] rfl (by decide +kernel) rfl rfl (fun _ => Nat.le_of_ble_eq_true rfl) (As := [.ref hld, .int (nI i)]) (st := []) (cs' := (0, 0)) rfl rfl rfl dX8_learnAllTold_29 (fun r_7 u_3 hp_4 ws_6 hw_5 => ?_)
      obtain rfl : r_7 = (nIf ld) i := hp_4
      have hw_5x : ws_6 = [(s, .inr (8, [.ref h, .ref sw, .ref sg, .int day])), (sw, .inl (V.2.2.1, 7, .inl w1)), (h, .inr (4, [.ref hk, .ref hfw, .ref hfg, .ref hwb, .ref hld, .ref hte, .ref hpu, .int (nI n), .int hwa, .int (nI m), .ref hnu, .int hto])), (hk, .inl (V.2.2.1, 7, .inl k)), (hld, .inl (V.2.2.1, 9, .inl (nIf ld))), (hte, .inl (V.2.2.1, 9, .inl (nIf te))), (hpu, .inl (V.2.2.1, 9, .inl (nIf pu)))] := hw_5.symm
      clear hw_5; subst hw_5x
      refine g_toe (nI (ld i)) rfl ?_
      refine g_iload_n X dX8_learnAllTold_32 rfl ?_
      refine g_icmp_ne X 62 dX8_learnAllTold_33 (by decide) (fun c33_8 => ?_) (fun c33_8 => ?_)
      · refine g_iinc X (v := nI (i + 1)) (L' := [some (.ref s), some (.int (remI day 14)), some (.int (nI (i + 1)))]) dX8_learnAllTold_62 rfl (nI_addk (by decide)) (by decide) rfl rfl ?_
        refine g_goto X 10 dX8_learnAllTold_65 (by decide) ?_
        exact ih10 (i + 1) (by omega) w1 (by rw [toldF, it_s]; rw [← toldF, ← h1]; simp [c33_8])
      · refine g_aload_n X dX8_learnAllTold_36 rfl ?_
        refine g_aload_n X dX8_learnAllTold_37 rfl ?_
        refine g_get X uwX8 0 rfl rfl 0 (by decide) kl_X8_22 rfl rfl gwX8 dX8_learnAllTold_38 ?_
        refine g_getN X uwX4 2 rfl rfl 5 (by decide) kl_X8_94 rfl rfl gwX4 dX8_learnAllTold_41 ?_
        refine g_iload_n X dX8_learnAllTold_44 rfl ?_
        refine g_callNi X (c_X10_at V hte 9 (nIf te) i (by omega) (by decide)) mo_X10_at kl_X8_31 [5] [0, 0, 0, 0, 0, 1, 0] rfl (by decide +kernel) rfl rfl (fun _ => Nat.le_of_ble_eq_true rfl) (As := [.ref hte, .int (nI i)]) (st := [.ref s]) (cs' := (0, 0)) rfl rfl rfl dX8_learnAllTold_45 (fun r_13 u_9 hp_10 ws_12 hw_11 => ?_)
        obtain rfl : r_13 = (nIf te) i := hp_10
        have hw_11x : ws_12 = [(s, .inr (8, [.ref h, .ref sw, .ref sg, .int day])), (sw, .inl (V.2.2.1, 7, .inl w1)), (h, .inr (4, [.ref hk, .ref hfw, .ref hfg, .ref hwb, .ref hld, .ref hte, .ref hpu, .int (nI n), .int hwa, .int (nI m), .ref hnu, .int hto])), (hk, .inl (V.2.2.1, 7, .inl k)), (hld, .inl (V.2.2.1, 9, .inl (nIf ld))), (hte, .inl (V.2.2.1, 9, .inl (nIf te))), (hpu, .inl (V.2.2.1, 9, .inl (nIf pu)))] := hw_11.symm
        clear hw_11; subst hw_11x
        refine g_toe (nI (te i)) rfl ?_
        refine g_aload_n X dX8_learnAllTold_48 rfl ?_
        refine g_get X uwX8 0 rfl rfl 0 (by decide) kl_X8_22 rfl rfl gwX8 dX8_learnAllTold_49 ?_
        refine g_getN X uwX4 2 rfl rfl 6 (by decide) kl_X8_97 rfl rfl gwX4 dX8_learnAllTold_52 ?_
        refine g_iload_n X dX8_learnAllTold_55 rfl ?_
        refine g_callNi X (c_X10_at V hpu 9 (nIf pu) i (by omega) (by decide)) mo_X10_at kl_X8_31 [6] [0, 0, 0, 0, 0, 0, 1] rfl (by decide +kernel) rfl rfl (fun _ => Nat.le_of_ble_eq_true rfl) (As := [.ref hpu, .int (nI i)]) (st := [.int (nI (te i)), .ref s]) (cs' := (0, 0)) rfl rfl rfl dX8_learnAllTold_56 (fun r_18 u_14 hp_15 ws_17 hw_16 => ?_)
        obtain rfl : r_18 = (nIf pu) i := hp_15
        have hw_16x : ws_17 = [(s, .inr (8, [.ref h, .ref sw, .ref sg, .int day])), (sw, .inl (V.2.2.1, 7, .inl w1)), (h, .inr (4, [.ref hk, .ref hfw, .ref hfg, .ref hwb, .ref hld, .ref hte, .ref hpu, .int (nI n), .int hwa, .int (nI m), .ref hnu, .int hto])), (hk, .inl (V.2.2.1, 7, .inl k)), (hld, .inl (V.2.2.1, 9, .inl (nIf ld))), (hte, .inl (V.2.2.1, 9, .inl (nIf te))), (hpu, .inl (V.2.2.1, 9, .inl (nIf pu)))] := hw_16.symm
        clear hw_16; subst hw_16x
        refine g_toe (nI (pu i)) rfl ?_
        refine g_callVv X (c_X8_learn V s sw sg day w1 h hk hfw hfg hwb hld hte hpu hnu n m hwa hto k (te i) (pu i) (by have := ht i (by omega); omega) (by have := ht i (by omega); omega)) mo_X8_learn kl_X8_100 [0, 1, 2, 3] [1, 2, 3, 4, 0, 0, 0] rfl (by decide +kernel) rfl rfl (fun _ => Nat.le_of_ble_eq_true rfl) 0 8 rfl rfl (As := [.int (nI (te i)), .int (nI (pu i))]) (st := []) (cs' := (0, 0)) rfl rfl rfl rfl dX8_learnAllTold_59 (fun nw_19 hp_20 ws_22 hw_21 => ?_)
        obtain rfl : nw_19 = learnF k day (te i) (pu i) w1 := hp_20
        have hw_21x : ws_22 = [(s, .inr (8, [.ref h, .ref sw, .ref sg, .int day])), (sw, .inl (V.2.2.1, 7, .inl (learnF k day (te i) (pu i) w1))), (h, .inr (4, [.ref hk, .ref hfw, .ref hfg, .ref hwb, .ref hld, .ref hte, .ref hpu, .int (nI n), .int hwa, .int (nI m), .ref hnu, .int hto])), (hk, .inl (V.2.2.1, 7, .inl k)), (hld, .inl (V.2.2.1, 9, .inl (nIf ld))), (hte, .inl (V.2.2.1, 9, .inl (nIf te))), (hpu, .inl (V.2.2.1, 9, .inl (nIf pu)))] := hw_21.symm
        clear hw_21; subst hw_21x
        refine g_iinc X (v := nI (i + 1)) (L' := [some (.ref s), some (.int (remI day 14)), some (.int (nI (i + 1)))]) dX8_learnAllTold_62 rfl (nI_addk (by decide)) (by decide) rfl rfl ?_
        refine g_goto X 10 dX8_learnAllTold_65 (by decide) ?_
        exact ih10 (i + 1) (by omega) (learnF k day (te i) (pu i) w1) (by rw [toldF, it_s]; rw [← toldF, ← h1]; simp [c33_8])
  exact loop10 m 0 (by omega) w rfl

set_option maxHeartbeats 4000000 in
set_option maxRecDepth 100000 in
theorem c_X8_hearThroughWalls (V : gV) (s : Nat) (sw : Nat) (sg : Nat) (day : Int32) (w : Nat → Int32) (h : Nat) (hk : Nat) (hfw : Nat) (hfg : Nat) (hwb : Nat) (hld : Nat) (hte : Nat) (hpu : Nat) (hnu : Nat) (n : Nat) (m : Nat) (hwa : Int32) (hto : Int32) (wb : Nat → Int32) (hn : n ≤ 7) : Kv V yX8_hearThroughWalls cX8_hearThroughWalls 3 ({ frames := 3, cells := 0, slots := 0, locals := 69 }) [.ref s] [(s, .inr (8, [.ref h, .ref sw, .ref sg, .int day])), (sw, .inl (V.2.2.1, 7, .inl w)), (h, .inr (4, [.ref hk, .ref hfw, .ref hfg, .ref hwb, .ref hld, .ref hte, .ref hpu, .int (nI n), .int hwa, .int (nI m), .ref hnu, .int hto])), (hwb, .inl (V.2.2.1, 7, .inl wb))] (fun u : (Nat → Int32) => u = hearF wb n w) (fun u => [(s, .inr (8, [.ref h, .ref sw, .ref sg, .int day])), (sw, .inl (V.2.2.1, 7, .inl u)), (h, .inr (4, [.ref hk, .ref hfw, .ref hfg, .ref hwb, .ref hld, .ref hte, .ref hpu, .int (nI n), .int hwa, .int (nI m), .ref hnu, .int hto])), (hwb, .inl (V.2.2.1, 7, .inl wb))]) := by
  refine Kv.of [some (.ref s), none, none] (by decide) (Nat.le_of_ble_eq_true rfl) rfl rfl ?_
  intro Z X E
  have X : gX V Z RX8 cX8_hearThroughWalls 3 ({ frames := 3, cells := 0, slots := 0, locals := 69 }) := X
  refine g_iconst X (0) dX8_hearThroughWalls_0 (by decide) ?_
  refine g_istore_n X (L' := [some (.ref s), some (.int 0), none]) dX8_hearThroughWalls_1 (by decide) rfl rfl ?_
  have loop2 : ∀ (d2 a : Nat), a + d2 = n → ∀ (w1 : Nat → Int32) (h1 : w1 = hearG wb n a w), G V Z 3 (0, 0) [(s, .inr (8, [.ref h, .ref sw, .ref sg, .int day])), (sw, .inl (V.2.2.1, 7, .inl w1)), (h, .inr (4, [.ref hk, .ref hfw, .ref hfg, .ref hwb, .ref hld, .ref hte, .ref hpu, .int (nI n), .int hwa, .int (nI m), .ref hnu, .int hto])), (hwb, .inl (V.2.2.1, 7, .inl wb))] 2 [some (.ref s), some (.int (nI a)), none] [] := by
    intro d2
    induction d2 with
    | zero =>
      intro a ha w1 h1
      refine g_iload_n X dX8_hearThroughWalls_2 rfl ?_
      refine g_aload_n X dX8_hearThroughWalls_3 rfl ?_
      refine g_get X uwX8 0 rfl rfl 0 (by decide) kl_X8_22 rfl rfl gwX8 dX8_hearThroughWalls_4 ?_
      refine g_getN X uwX4 2 rfl rfl 7 (by decide) kl_X8_51 rfl rfl gwX4 dX8_hearThroughWalls_7 ?_
      refine g_icmp_ge X 58 dX8_hearThroughWalls_10 (by decide) (fun c10_1 => ?_) (fun c10_1 => absurd (tge (a := a) (b := n) (by omega) (by omega) (by omega)) c10_1)
      exact g_vret X E dX8_hearThroughWalls_58 w1 (by have e : a = n := (by omega); subst e; exact h1) rfl
    | succ d2 ih2 =>
      intro a ha w1 h1
      refine g_iload_n X dX8_hearThroughWalls_2 rfl ?_
      refine g_aload_n X dX8_hearThroughWalls_3 rfl ?_
      refine g_get X uwX8 0 rfl rfl 0 (by decide) kl_X8_22 rfl rfl gwX8 dX8_hearThroughWalls_4 ?_
      refine g_getN X uwX4 2 rfl rfl 7 (by decide) kl_X8_51 rfl rfl gwX4 dX8_hearThroughWalls_7 ?_
      refine g_icmp_ge X 58 dX8_hearThroughWalls_10 (by decide) (fun c10_2 => absurd c10_2 (fge (a := a) (b := n) (by omega) (by omega) (by omega))) (fun c10_2 => ?_)
      refine g_iload_n X dX8_hearThroughWalls_13 rfl ?_
      refine g_iconst X (1) dX8_hearThroughWalls_14 (by decide) ?_
      refine g_iadd X dX8_hearThroughWalls_15 ?_
      refine g_toe (x' := nI (a + 1)) (nI_add' rfl rfl) ?_
      refine g_istore_n X (L' := [some (.ref s), some (.int (nI a)), some (.int (nI (a + 1)))]) dX8_hearThroughWalls_16 (by decide) rfl rfl ?_
      have loop17_3 : ∀ (d17 b : Nat), b + d17 = n → ∀ (w2 : Nat → Int32) (hlb : a + 1 ≤ b) (h2 : w2 = itg (a + 1) (fun b w => if hasF (wb a) b = 0 then w else nearF a b w) b w1), G V Z 3 (0, 0) [(s, .inr (8, [.ref h, .ref sw, .ref sg, .int day])), (sw, .inl (V.2.2.1, 7, .inl w2)), (h, .inr (4, [.ref hk, .ref hfw, .ref hfg, .ref hwb, .ref hld, .ref hte, .ref hpu, .int (nI n), .int hwa, .int (nI m), .ref hnu, .int hto])), (hwb, .inl (V.2.2.1, 7, .inl wb))] 17 [some (.ref s), some (.int (nI a)), some (.int (nI b))] [] := by
        intro d17
        induction d17 with
        | zero =>
          intro b hb w2 hlb h2
          refine g_iload_n X dX8_hearThroughWalls_17 rfl ?_
          refine g_aload_n X dX8_hearThroughWalls_18 rfl ?_
          refine g_get X uwX8 0 rfl rfl 0 (by decide) kl_X8_22 rfl rfl gwX8 dX8_hearThroughWalls_19 ?_
          refine g_getN X uwX4 2 rfl rfl 7 (by decide) kl_X8_51 rfl rfl gwX4 dX8_hearThroughWalls_22 ?_
          refine g_icmp_ge X 52 dX8_hearThroughWalls_25 (by decide) (fun c25_4 => ?_) (fun c25_4 => absurd (tge (a := b) (b := n) (by omega) (by omega) (by omega)) c25_4)
          refine g_iinc X (v := nI (a + 1)) (L' := [some (.ref s), some (.int (nI (a + 1))), some (.int (nI b))]) dX8_hearThroughWalls_52 rfl (nI_addk (by decide)) (by decide) rfl rfl ?_
          refine g_goto X 2 dX8_hearThroughWalls_55 (by decide) ?_
          refine g_sub (L' := [some (.ref s), some (.int (nI (a + 1))), none]) ⟨rfl, ⟨rfl, trivial⟩⟩ ?_
          exact ih2 (a + 1) (by omega) w2 (by have e : b = n := (by omega); subst e; rw [h2, h1]; rfl)
        | succ d17 ih17 =>
          intro b hb w2 hlb h2
          refine g_iload_n X dX8_hearThroughWalls_17 rfl ?_
          refine g_aload_n X dX8_hearThroughWalls_18 rfl ?_
          refine g_get X uwX8 0 rfl rfl 0 (by decide) kl_X8_22 rfl rfl gwX8 dX8_hearThroughWalls_19 ?_
          refine g_getN X uwX4 2 rfl rfl 7 (by decide) kl_X8_51 rfl rfl gwX4 dX8_hearThroughWalls_22 ?_
          refine g_icmp_ge X 52 dX8_hearThroughWalls_25 (by decide) (fun c25_5 => absurd c25_5 (fge (a := b) (b := n) (by omega) (by omega) (by omega))) (fun c25_5 => ?_)
          refine g_aload_n X dX8_hearThroughWalls_28 rfl ?_
          refine g_get X uwX8 0 rfl rfl 0 (by decide) kl_X8_22 rfl rfl gwX8 dX8_hearThroughWalls_29 ?_
          refine g_iload_n X dX8_hearThroughWalls_32 rfl ?_
          refine g_iload_n X dX8_hearThroughWalls_33 rfl ?_
          refine g_callVi X (c_X4_hasWall V h hk hfw hfg hwb hld hte hpu hnu n m hwa hto wb a b (by omega)) mo_X4_hasWall kl_X8_103 [2, 3] [0, 0, 1, 2] rfl (by decide +kernel) rfl rfl (fun _ => Nat.le_of_ble_eq_true rfl) 2 4 rfl rfl (As := [.int (nI a), .int (nI b)]) (st := []) (cs' := (0, 0)) rfl rfl rfl rfl dX8_hearThroughWalls_34 (fun r_10 u_6 hp_7 ws_9 hw_8 => ?_)
          obtain rfl : r_10 = hasF (wb a) b := hp_7
          have hw_8x : ws_9 = [(s, .inr (8, [.ref h, .ref sw, .ref sg, .int day])), (sw, .inl (V.2.2.1, 7, .inl w2)), (h, .inr (4, [.ref hk, .ref hfw, .ref hfg, .ref hwb, .ref hld, .ref hte, .ref hpu, .int (nI n), .int hwa, .int (nI m), .ref hnu, .int hto])), (hwb, .inl (V.2.2.1, 7, .inl wb))] := hw_8.symm
          clear hw_8; subst hw_8x
          refine g_if_eq X 46 dX8_hearThroughWalls_37 (by decide) (fun c37_11 => ?_) (fun c37_11 => ?_)
          · refine g_iinc X (v := nI (b + 1)) (L' := [some (.ref s), some (.int (nI a)), some (.int (nI (b + 1)))]) dX8_hearThroughWalls_46 rfl (nI_addk (by decide)) (by decide) rfl rfl ?_
            refine g_goto X 17 dX8_hearThroughWalls_49 (by decide) ?_
            exact ih17 (b + 1) (by omega) w2 (by omega) (by rw [itg_s _ _ hlb, ← h2]; simp [c37_11])
          · refine g_aload_n X dX8_hearThroughWalls_40 rfl ?_
            refine g_iload_n X dX8_hearThroughWalls_41 rfl ?_
            refine g_iload_n X dX8_hearThroughWalls_42 rfl ?_
            refine g_callVv X (c_X8_drawNearer V s sw sg day w2 h a b (by omega) (by omega) (by omega)) mo_X8_drawNearer kl_X8_107 [0, 1] [1, 2, 0, 0] rfl (by decide +kernel) rfl rfl (fun _ => Nat.le_of_ble_eq_true rfl) 0 8 rfl rfl (As := [.int (nI a), .int (nI b)]) (st := []) (cs' := (0, 0)) rfl rfl rfl rfl dX8_hearThroughWalls_43 (fun nw_12 hp_13 ws_15 hw_14 => ?_)
            obtain rfl : nw_12 = nearF a b w2 := hp_13
            have hw_14x : ws_15 = [(s, .inr (8, [.ref h, .ref sw, .ref sg, .int day])), (sw, .inl (V.2.2.1, 7, .inl (nearF a b w2))), (h, .inr (4, [.ref hk, .ref hfw, .ref hfg, .ref hwb, .ref hld, .ref hte, .ref hpu, .int (nI n), .int hwa, .int (nI m), .ref hnu, .int hto])), (hwb, .inl (V.2.2.1, 7, .inl wb))] := hw_14.symm
            clear hw_14; subst hw_14x
            refine g_iinc X (v := nI (b + 1)) (L' := [some (.ref s), some (.int (nI a)), some (.int (nI (b + 1)))]) dX8_hearThroughWalls_46 rfl (nI_addk (by decide)) (by decide) rfl rfl ?_
            refine g_goto X 17 dX8_hearThroughWalls_49 (by decide) ?_
            exact ih17 (b + 1) (by omega) (nearF a b w2) (by omega) (by rw [itg_s _ _ hlb, ← h2]; simp [c37_11])
      exact loop17_3 (n - (a + 1)) (a + 1) (by omega) w1 (Nat.le_refl _) (itg_0 _ _ (Nat.le_refl _)).symm
  exact loop2 n 0 (by omega) w rfl

set_option maxHeartbeats 4000000 in
set_option maxRecDepth 100000 in
theorem c_X8_passDay (V : gV) (s : Nat) (sw : Nat) (sg : Nat) (day : Int32) (w : Nat → Int32) (g : Nat → Int32) (h : Nat) (hk : Nat) (hfw : Nat) (hfg : Nat) (hwb : Nat) (hld : Nat) (hte : Nat) (hpu : Nat) (hnu : Nat) (n : Nat) (m : Nat) (hwa : Int32) (hto : Int32) (k : Nat → Int32) (wb : Nat → Int32) (ld : Nat → Nat) (te : Nat → Nat) (pu : Nat → Nat) (carry : Int32) (hn : n ≤ 7) (hm : m ≤ 9) (ht : ∀ i, i < m → te i < n ∧ pu i < n) : Kv V yX8_passDay cX8_passDay 3 ({ frames := 4, cells := 0, slots := 0, locals := 91 }) [.ref s, .int carry] [(s, .inr (8, [.ref h, .ref sw, .ref sg, .int day])), (sw, .inl (V.2.2.1, 7, .inl w)), (sg, .inl (V.2.2.1, 7, .inl g)), (h, .inr (4, [.ref hk, .ref hfw, .ref hfg, .ref hwb, .ref hld, .ref hte, .ref hpu, .int (nI n), .int hwa, .int (nI m), .ref hnu, .int hto])), (hk, .inl (V.2.2.1, 7, .inl k)), (hwb, .inl (V.2.2.1, 7, .inl wb)), (hld, .inl (V.2.2.1, 9, .inl (nIf ld))), (hte, .inl (V.2.2.1, 9, .inl (nIf te))), (hpu, .inl (V.2.2.1, 9, .inl (nIf pu)))] (fun u : (Nat → Int32) => u = dayF k wb ld te pu n m g carry day w) (fun u => [(s, .inr (8, [.ref h, .ref sw, .ref sg, .int (day + 1)])), (sw, .inl (V.2.2.1, 7, .inl u)), (sg, .inl (V.2.2.1, 7, .inl g)), (h, .inr (4, [.ref hk, .ref hfw, .ref hfg, .ref hwb, .ref hld, .ref hte, .ref hpu, .int (nI n), .int hwa, .int (nI m), .ref hnu, .int hto])), (hk, .inl (V.2.2.1, 7, .inl k)), (hwb, .inl (V.2.2.1, 7, .inl wb)), (hld, .inl (V.2.2.1, 9, .inl (nIf ld))), (hte, .inl (V.2.2.1, 9, .inl (nIf te))), (hpu, .inl (V.2.2.1, 9, .inl (nIf pu)))]) := by
  refine Kv.of [some (.ref s), some (.int carry), none] (by decide) (Nat.le_of_ble_eq_true rfl) rfl rfl ?_
  intro Z X E
  have X : gX V Z RX8 cX8_passDay 3 ({ frames := 4, cells := 0, slots := 0, locals := 91 }) := X
  refine g_aload_n X dX8_passDay_0 rfl ?_
  refine g_callVv X (c_X8_learnAllTold V s sw sg day w h hk hfw hfg hwb hld hte hpu hnu n m hwa hto k ld te pu (by omega) (by omega) ht) mo_X8_learnAllTold kl_X8_79 [0, 1, 3, 4, 6, 7, 8] [1, 2, 0, 3, 4, 0, 5, 6, 7] rfl (by decide +kernel) rfl rfl (fun _ => Nat.le_of_ble_eq_true rfl) 0 8 rfl rfl (As := []) (st := []) (cs' := (0, 0)) rfl rfl rfl rfl dX8_passDay_1 (fun nw_1 hp_2 ws_4 hw_3 => ?_)
  obtain rfl : nw_1 = toldF k ld te pu m day w := hp_2
  have hw_3x : ws_4 = [(s, .inr (8, [.ref h, .ref sw, .ref sg, .int day])), (sw, .inl (V.2.2.1, 7, .inl (toldF k ld te pu m day w))), (sg, .inl (V.2.2.1, 7, .inl g)), (h, .inr (4, [.ref hk, .ref hfw, .ref hfg, .ref hwb, .ref hld, .ref hte, .ref hpu, .int (nI n), .int hwa, .int (nI m), .ref hnu, .int hto])), (hk, .inl (V.2.2.1, 7, .inl k)), (hwb, .inl (V.2.2.1, 7, .inl wb)), (hld, .inl (V.2.2.1, 9, .inl (nIf ld))), (hte, .inl (V.2.2.1, 9, .inl (nIf te))), (hpu, .inl (V.2.2.1, 9, .inl (nIf pu)))] := hw_3.symm
  clear hw_3; subst hw_3x
  refine g_iload_n X dX8_passDay_4 rfl ?_
  refine g_if_eq X 12 dX8_passDay_5 (by decide) (fun c5_6 => ?_) (fun c5_6 => ?_)
  · refine g_iconst X (0) dX8_passDay_12 (by decide) ?_
    refine g_istore_n X (L' := [some (.ref s), some (.int carry), some (.int 0)]) dX8_passDay_13 (by decide) rfl rfl ?_
    have loop14_7 : ∀ (d14 c : Nat), c + d14 = n → ∀ (w1 : Nat → Int32) (h1 : w1 = gainF g c (toldF k ld te pu m day w)), G V Z 3 (0, 0) [(s, .inr (8, [.ref h, .ref sw, .ref sg, .int day])), (sw, .inl (V.2.2.1, 7, .inl w1)), (sg, .inl (V.2.2.1, 7, .inl g)), (h, .inr (4, [.ref hk, .ref hfw, .ref hfg, .ref hwb, .ref hld, .ref hte, .ref hpu, .int (nI n), .int hwa, .int (nI m), .ref hnu, .int hto])), (hk, .inl (V.2.2.1, 7, .inl k)), (hwb, .inl (V.2.2.1, 7, .inl wb)), (hld, .inl (V.2.2.1, 9, .inl (nIf ld))), (hte, .inl (V.2.2.1, 9, .inl (nIf te))), (hpu, .inl (V.2.2.1, 9, .inl (nIf pu)))] 14 [some (.ref s), some (.int carry), some (.int (nI c))] [] := by
      intro d14
      induction d14 with
      | zero =>
        intro c hc w1 h1
        refine g_iload_n X dX8_passDay_14 rfl ?_
        refine g_aload_n X dX8_passDay_15 rfl ?_
        refine g_get X uwX8 0 rfl rfl 0 (by decide) kl_X8_22 rfl rfl gwX8 dX8_passDay_16 ?_
        refine g_getN X uwX4 3 rfl rfl 7 (by decide) kl_X8_51 rfl rfl gwX4 dX8_passDay_19 ?_
        refine g_icmp_ge X 47 dX8_passDay_22 (by decide) (fun c22_8 => ?_) (fun c22_8 => absurd (tge (a := c) (b := n) (by omega) (by omega) (by omega)) c22_8)
        refine g_aload_n X dX8_passDay_47 rfl ?_
        refine g_dup X dX8_passDay_48 rfl ?_
        refine g_get X uwX8 0 rfl rfl 3 (by decide) kl_X8_18 rfl rfl gwX8 dX8_passDay_49 ?_
        refine g_iconst X (1) dX8_passDay_52 (by decide) ?_
        refine g_iadd X dX8_passDay_53 ?_
        refine g_put X uwX8 tyX8 tyX8_ok nmX8 0 rfl rfl 3 (by decide) kl_X8_18 rfl rfl rfl rfl (Nat.le_of_ble_eq_true rfl) gwX8 (ws' := [(s, .inr (8, [.ref h, .ref sw, .ref sg, .int (day + 1)])), (sw, .inl (V.2.2.1, 7, .inl w1)), (sg, .inl (V.2.2.1, 7, .inl g)), (h, .inr (4, [.ref hk, .ref hfw, .ref hfg, .ref hwb, .ref hld, .ref hte, .ref hpu, .int (nI n), .int hwa, .int (nI m), .ref hnu, .int hto])), (hk, .inl (V.2.2.1, 7, .inl k)), (hwb, .inl (V.2.2.1, 7, .inl wb)), (hld, .inl (V.2.2.1, 9, .inl (nIf ld))), (hte, .inl (V.2.2.1, 9, .inl (nIf te))), (hpu, .inl (V.2.2.1, 9, .inl (nIf pu)))]) rfl dX8_passDay_54 ?_
        exact g_vret X E dX8_passDay_57 w1 (by have e : c = n := (by omega); subst e; rw [h1, dayF]; simp [c5_6]) rfl
      | succ d14 ih14 =>
        intro c hc w1 h1
        refine g_iload_n X dX8_passDay_14 rfl ?_
        refine g_aload_n X dX8_passDay_15 rfl ?_
        refine g_get X uwX8 0 rfl rfl 0 (by decide) kl_X8_22 rfl rfl gwX8 dX8_passDay_16 ?_
        refine g_getN X uwX4 3 rfl rfl 7 (by decide) kl_X8_51 rfl rfl gwX4 dX8_passDay_19 ?_
        refine g_icmp_ge X 47 dX8_passDay_22 (by decide) (fun c22_9 => absurd c22_9 (fge (a := c) (b := n) (by omega) (by omega) (by omega))) (fun c22_9 => ?_)
        refine g_aload_n X dX8_passDay_25 rfl ?_
        refine g_iload_n X dX8_passDay_26 rfl ?_
        refine g_aload_n X dX8_passDay_27 rfl ?_
        refine g_iload_n X dX8_passDay_28 rfl ?_
        refine g_callVi X (c_X8_wrongOf V s sw sg day w1 h c (by omega)) mo_X8_wrongOf kl_X8_85 [0, 1] [1, 2, 0, 0, 0, 0, 0, 0, 0] rfl (by decide +kernel) rfl rfl (fun _ => Nat.le_of_ble_eq_true rfl) 0 8 rfl rfl (As := [.int (nI c)]) (st := [.int (nI c), .ref s]) (cs' := (0, 0)) rfl rfl rfl rfl dX8_passDay_29 (fun r_14 u_10 hp_11 ws_13 hw_12 => ?_)
        obtain rfl : r_14 = w1 c := hp_11
        have hw_12x : ws_13 = [(s, .inr (8, [.ref h, .ref sw, .ref sg, .int day])), (sw, .inl (V.2.2.1, 7, .inl w1)), (sg, .inl (V.2.2.1, 7, .inl g)), (h, .inr (4, [.ref hk, .ref hfw, .ref hfg, .ref hwb, .ref hld, .ref hte, .ref hpu, .int (nI n), .int hwa, .int (nI m), .ref hnu, .int hto])), (hk, .inl (V.2.2.1, 7, .inl k)), (hwb, .inl (V.2.2.1, 7, .inl wb)), (hld, .inl (V.2.2.1, 9, .inl (nIf ld))), (hte, .inl (V.2.2.1, 9, .inl (nIf te))), (hpu, .inl (V.2.2.1, 9, .inl (nIf pu)))] := hw_12.symm
        clear hw_12; subst hw_12x
        refine g_aload_n X dX8_passDay_32 rfl ?_
        refine g_iload_n X dX8_passDay_33 rfl ?_
        refine g_callVi X (c_X8_gainOf V s sw sg day g h c (by omega)) mo_X8_gainOf kl_X8_62 [0, 2] [1, 0, 2, 0, 0, 0, 0, 0, 0] rfl (by decide +kernel) rfl rfl (fun _ => Nat.le_of_ble_eq_true rfl) 0 8 rfl rfl (As := [.int (nI c)]) (st := [.int (w1 c), .int (nI c), .ref s]) (cs' := (0, 0)) rfl rfl rfl rfl dX8_passDay_34 (fun r_19 u_15 hp_16 ws_18 hw_17 => ?_)
        obtain rfl : r_19 = g c := hp_16
        have hw_17x : ws_18 = [(s, .inr (8, [.ref h, .ref sw, .ref sg, .int day])), (sw, .inl (V.2.2.1, 7, .inl w1)), (sg, .inl (V.2.2.1, 7, .inl g)), (h, .inr (4, [.ref hk, .ref hfw, .ref hfg, .ref hwb, .ref hld, .ref hte, .ref hpu, .int (nI n), .int hwa, .int (nI m), .ref hnu, .int hto])), (hk, .inl (V.2.2.1, 7, .inl k)), (hwb, .inl (V.2.2.1, 7, .inl wb)), (hld, .inl (V.2.2.1, 9, .inl (nIf ld))), (hte, .inl (V.2.2.1, 9, .inl (nIf te))), (hpu, .inl (V.2.2.1, 9, .inl (nIf pu)))] := hw_17.symm
        clear hw_17; subst hw_17x
        refine g_iadd X dX8_passDay_37 ?_
        refine g_callVv X (c_X8_makeWrong V s sw sg day w1 h c ((w1 c) + (g c)) (by omega)) mo_X8_makeWrong kl_X8_58 [0, 1] [1, 2, 0, 0, 0, 0, 0, 0, 0] rfl (by decide +kernel) rfl rfl (fun _ => Nat.le_of_ble_eq_true rfl) 0 8 rfl rfl (As := [.int (nI c), .int ((w1 c) + (g c))]) (st := []) (cs' := (0, 0)) rfl rfl rfl rfl dX8_passDay_38 (fun nw_20 hp_21 ws_23 hw_22 => ?_)
        obtain rfl : nw_20 = upd w1 c (clampF ((w1 c) + (g c))) := hp_21
        have hw_22x : ws_23 = [(s, .inr (8, [.ref h, .ref sw, .ref sg, .int day])), (sw, .inl (V.2.2.1, 7, .inl (upd w1 c (clampF ((w1 c) + (g c)))))), (sg, .inl (V.2.2.1, 7, .inl g)), (h, .inr (4, [.ref hk, .ref hfw, .ref hfg, .ref hwb, .ref hld, .ref hte, .ref hpu, .int (nI n), .int hwa, .int (nI m), .ref hnu, .int hto])), (hk, .inl (V.2.2.1, 7, .inl k)), (hwb, .inl (V.2.2.1, 7, .inl wb)), (hld, .inl (V.2.2.1, 9, .inl (nIf ld))), (hte, .inl (V.2.2.1, 9, .inl (nIf te))), (hpu, .inl (V.2.2.1, 9, .inl (nIf pu)))] := hw_22.symm
        clear hw_22; subst hw_22x
        refine g_iinc X (v := nI (c + 1)) (L' := [some (.ref s), some (.int carry), some (.int (nI (c + 1)))]) dX8_passDay_41 rfl (nI_addk (by decide)) (by decide) rfl rfl ?_
        refine g_goto X 14 dX8_passDay_44 (by decide) ?_
        exact ih14 (c + 1) (by omega) (upd w1 c (clampF ((w1 c) + (g c)))) (by rw [gainF, it_s, ← gainF, ← h1])
    exact loop14_7 n 0 (by omega) (toldF k ld te pu m day w) rfl
  · refine g_aload_n X dX8_passDay_8 rfl ?_
    refine g_callVv X (c_X8_hearThroughWalls V s sw sg day (toldF k ld te pu m day w) h hk hfw hfg hwb hld hte hpu hnu n m hwa hto wb (by omega)) mo_X8_hearThroughWalls kl_X8_82 [0, 1, 3, 5] [1, 2, 0, 3, 0, 4, 0, 0, 0] rfl (by decide +kernel) rfl rfl (fun _ => Nat.le_of_ble_eq_true rfl) 0 8 rfl rfl (As := []) (st := []) (cs' := (0, 0)) rfl rfl rfl rfl dX8_passDay_9 (fun nw_25 hp_26 ws_28 hw_27 => ?_)
    obtain rfl : nw_25 = hearF wb n (toldF k ld te pu m day w) := hp_26
    have hw_27x : ws_28 = [(s, .inr (8, [.ref h, .ref sw, .ref sg, .int day])), (sw, .inl (V.2.2.1, 7, .inl (hearF wb n (toldF k ld te pu m day w)))), (sg, .inl (V.2.2.1, 7, .inl g)), (h, .inr (4, [.ref hk, .ref hfw, .ref hfg, .ref hwb, .ref hld, .ref hte, .ref hpu, .int (nI n), .int hwa, .int (nI m), .ref hnu, .int hto])), (hk, .inl (V.2.2.1, 7, .inl k)), (hwb, .inl (V.2.2.1, 7, .inl wb)), (hld, .inl (V.2.2.1, 9, .inl (nIf ld))), (hte, .inl (V.2.2.1, 9, .inl (nIf te))), (hpu, .inl (V.2.2.1, 9, .inl (nIf pu)))] := hw_27.symm
    clear hw_27; subst hw_27x
    refine g_iconst X (0) dX8_passDay_12 (by decide) ?_
    refine g_istore_n X (L' := [some (.ref s), some (.int carry), some (.int 0)]) dX8_passDay_13 (by decide) rfl rfl ?_
    have loop14_30 : ∀ (d14 c : Nat), c + d14 = n → ∀ (w1 : Nat → Int32) (h1 : w1 = gainF g c (hearF wb n (toldF k ld te pu m day w))), G V Z 3 (0, 0) [(s, .inr (8, [.ref h, .ref sw, .ref sg, .int day])), (sw, .inl (V.2.2.1, 7, .inl w1)), (sg, .inl (V.2.2.1, 7, .inl g)), (h, .inr (4, [.ref hk, .ref hfw, .ref hfg, .ref hwb, .ref hld, .ref hte, .ref hpu, .int (nI n), .int hwa, .int (nI m), .ref hnu, .int hto])), (hk, .inl (V.2.2.1, 7, .inl k)), (hwb, .inl (V.2.2.1, 7, .inl wb)), (hld, .inl (V.2.2.1, 9, .inl (nIf ld))), (hte, .inl (V.2.2.1, 9, .inl (nIf te))), (hpu, .inl (V.2.2.1, 9, .inl (nIf pu)))] 14 [some (.ref s), some (.int carry), some (.int (nI c))] [] := by
      intro d14
      induction d14 with
      | zero =>
        intro c hc w1 h1
        refine g_iload_n X dX8_passDay_14 rfl ?_
        refine g_aload_n X dX8_passDay_15 rfl ?_
        refine g_get X uwX8 0 rfl rfl 0 (by decide) kl_X8_22 rfl rfl gwX8 dX8_passDay_16 ?_
        refine g_getN X uwX4 3 rfl rfl 7 (by decide) kl_X8_51 rfl rfl gwX4 dX8_passDay_19 ?_
        refine g_icmp_ge X 47 dX8_passDay_22 (by decide) (fun c22_31 => ?_) (fun c22_31 => absurd (tge (a := c) (b := n) (by omega) (by omega) (by omega)) c22_31)
        refine g_aload_n X dX8_passDay_47 rfl ?_
        refine g_dup X dX8_passDay_48 rfl ?_
        refine g_get X uwX8 0 rfl rfl 3 (by decide) kl_X8_18 rfl rfl gwX8 dX8_passDay_49 ?_
        refine g_iconst X (1) dX8_passDay_52 (by decide) ?_
        refine g_iadd X dX8_passDay_53 ?_
        refine g_put X uwX8 tyX8 tyX8_ok nmX8 0 rfl rfl 3 (by decide) kl_X8_18 rfl rfl rfl rfl (Nat.le_of_ble_eq_true rfl) gwX8 (ws' := [(s, .inr (8, [.ref h, .ref sw, .ref sg, .int (day + 1)])), (sw, .inl (V.2.2.1, 7, .inl w1)), (sg, .inl (V.2.2.1, 7, .inl g)), (h, .inr (4, [.ref hk, .ref hfw, .ref hfg, .ref hwb, .ref hld, .ref hte, .ref hpu, .int (nI n), .int hwa, .int (nI m), .ref hnu, .int hto])), (hk, .inl (V.2.2.1, 7, .inl k)), (hwb, .inl (V.2.2.1, 7, .inl wb)), (hld, .inl (V.2.2.1, 9, .inl (nIf ld))), (hte, .inl (V.2.2.1, 9, .inl (nIf te))), (hpu, .inl (V.2.2.1, 9, .inl (nIf pu)))]) rfl dX8_passDay_54 ?_
        exact g_vret X E dX8_passDay_57 w1 (by have e : c = n := (by omega); subst e; rw [h1, dayF]; simp [c5_6]) rfl
      | succ d14 ih14 =>
        intro c hc w1 h1
        refine g_iload_n X dX8_passDay_14 rfl ?_
        refine g_aload_n X dX8_passDay_15 rfl ?_
        refine g_get X uwX8 0 rfl rfl 0 (by decide) kl_X8_22 rfl rfl gwX8 dX8_passDay_16 ?_
        refine g_getN X uwX4 3 rfl rfl 7 (by decide) kl_X8_51 rfl rfl gwX4 dX8_passDay_19 ?_
        refine g_icmp_ge X 47 dX8_passDay_22 (by decide) (fun c22_32 => absurd c22_32 (fge (a := c) (b := n) (by omega) (by omega) (by omega))) (fun c22_32 => ?_)
        refine g_aload_n X dX8_passDay_25 rfl ?_
        refine g_iload_n X dX8_passDay_26 rfl ?_
        refine g_aload_n X dX8_passDay_27 rfl ?_
        refine g_iload_n X dX8_passDay_28 rfl ?_
        refine g_callVi X (c_X8_wrongOf V s sw sg day w1 h c (by omega)) mo_X8_wrongOf kl_X8_85 [0, 1] [1, 2, 0, 0, 0, 0, 0, 0, 0] rfl (by decide +kernel) rfl rfl (fun _ => Nat.le_of_ble_eq_true rfl) 0 8 rfl rfl (As := [.int (nI c)]) (st := [.int (nI c), .ref s]) (cs' := (0, 0)) rfl rfl rfl rfl dX8_passDay_29 (fun r_37 u_33 hp_34 ws_36 hw_35 => ?_)
        obtain rfl : r_37 = w1 c := hp_34
        have hw_35x : ws_36 = [(s, .inr (8, [.ref h, .ref sw, .ref sg, .int day])), (sw, .inl (V.2.2.1, 7, .inl w1)), (sg, .inl (V.2.2.1, 7, .inl g)), (h, .inr (4, [.ref hk, .ref hfw, .ref hfg, .ref hwb, .ref hld, .ref hte, .ref hpu, .int (nI n), .int hwa, .int (nI m), .ref hnu, .int hto])), (hk, .inl (V.2.2.1, 7, .inl k)), (hwb, .inl (V.2.2.1, 7, .inl wb)), (hld, .inl (V.2.2.1, 9, .inl (nIf ld))), (hte, .inl (V.2.2.1, 9, .inl (nIf te))), (hpu, .inl (V.2.2.1, 9, .inl (nIf pu)))] := hw_35.symm
        clear hw_35; subst hw_35x
        refine g_aload_n X dX8_passDay_32 rfl ?_
        refine g_iload_n X dX8_passDay_33 rfl ?_
        refine g_callVi X (c_X8_gainOf V s sw sg day g h c (by omega)) mo_X8_gainOf kl_X8_62 [0, 2] [1, 0, 2, 0, 0, 0, 0, 0, 0] rfl (by decide +kernel) rfl rfl (fun _ => Nat.le_of_ble_eq_true rfl) 0 8 rfl rfl (As := [.int (nI c)]) (st := [.int (w1 c), .int (nI c), .ref s]) (cs' := (0, 0)) rfl rfl rfl rfl dX8_passDay_34 (fun r_42 u_38 hp_39 ws_41 hw_40 => ?_)
        obtain rfl : r_42 = g c := hp_39
        have hw_40x : ws_41 = [(s, .inr (8, [.ref h, .ref sw, .ref sg, .int day])), (sw, .inl (V.2.2.1, 7, .inl w1)), (sg, .inl (V.2.2.1, 7, .inl g)), (h, .inr (4, [.ref hk, .ref hfw, .ref hfg, .ref hwb, .ref hld, .ref hte, .ref hpu, .int (nI n), .int hwa, .int (nI m), .ref hnu, .int hto])), (hk, .inl (V.2.2.1, 7, .inl k)), (hwb, .inl (V.2.2.1, 7, .inl wb)), (hld, .inl (V.2.2.1, 9, .inl (nIf ld))), (hte, .inl (V.2.2.1, 9, .inl (nIf te))), (hpu, .inl (V.2.2.1, 9, .inl (nIf pu)))] := hw_40.symm
        clear hw_40; subst hw_40x
        refine g_iadd X dX8_passDay_37 ?_
        refine g_callVv X (c_X8_makeWrong V s sw sg day w1 h c ((w1 c) + (g c)) (by omega)) mo_X8_makeWrong kl_X8_58 [0, 1] [1, 2, 0, 0, 0, 0, 0, 0, 0] rfl (by decide +kernel) rfl rfl (fun _ => Nat.le_of_ble_eq_true rfl) 0 8 rfl rfl (As := [.int (nI c), .int ((w1 c) + (g c))]) (st := []) (cs' := (0, 0)) rfl rfl rfl rfl dX8_passDay_38 (fun nw_43 hp_44 ws_46 hw_45 => ?_)
        obtain rfl : nw_43 = upd w1 c (clampF ((w1 c) + (g c))) := hp_44
        have hw_45x : ws_46 = [(s, .inr (8, [.ref h, .ref sw, .ref sg, .int day])), (sw, .inl (V.2.2.1, 7, .inl (upd w1 c (clampF ((w1 c) + (g c)))))), (sg, .inl (V.2.2.1, 7, .inl g)), (h, .inr (4, [.ref hk, .ref hfw, .ref hfg, .ref hwb, .ref hld, .ref hte, .ref hpu, .int (nI n), .int hwa, .int (nI m), .ref hnu, .int hto])), (hk, .inl (V.2.2.1, 7, .inl k)), (hwb, .inl (V.2.2.1, 7, .inl wb)), (hld, .inl (V.2.2.1, 9, .inl (nIf ld))), (hte, .inl (V.2.2.1, 9, .inl (nIf te))), (hpu, .inl (V.2.2.1, 9, .inl (nIf pu)))] := hw_45.symm
        clear hw_45; subst hw_45x
        refine g_iinc X (v := nI (c + 1)) (L' := [some (.ref s), some (.int carry), some (.int (nI (c + 1)))]) dX8_passDay_41 rfl (nI_addk (by decide)) (by decide) rfl rfl ?_
        refine g_goto X 14 dX8_passDay_44 (by decide) ?_
        exact ih14 (c + 1) (by omega) (upd w1 c (clampF ((w1 c) + (g c)))) (by rw [gainF, it_s, ← gainF, ← h1])
    exact loop14_30 n 0 (by omega) (hearF wb n (toldF k ld te pu m day w)) rfl

set_option maxHeartbeats 4000000 in
set_option maxRecDepth 100000 in
theorem c_X8_passDays (V : gV) (s : Nat) (sw : Nat) (sg : Nat) (day : Int32) (w : Nat → Int32) (g : Nat → Int32) (h : Nat) (hk : Nat) (hfw : Nat) (hfg : Nat) (hwb : Nat) (hld : Nat) (hte : Nat) (hpu : Nat) (hnu : Nat) (n : Nat) (m : Nat) (hwa : Int32) (hto : Int32) (k : Nat → Int32) (wb : Nat → Int32) (ld : Nat → Nat) (te : Nat → Nat) (pu : Nat → Nat) (q : Nat) (hn : n ≤ 7) (hm : m ≤ 9) (hq : q < 2147483648) (ht : ∀ i, i < m → te i < n ∧ pu i < n) : Kv V yX8_passDays cX8_passDays 3 ({ frames := 5, cells := 0, slots := 0, locals := 113 }) [.ref s, .int (nI q)] [(s, .inr (8, [.ref h, .ref sw, .ref sg, .int day])), (sw, .inl (V.2.2.1, 7, .inl w)), (sg, .inl (V.2.2.1, 7, .inl g)), (h, .inr (4, [.ref hk, .ref hfw, .ref hfg, .ref hwb, .ref hld, .ref hte, .ref hpu, .int (nI n), .int hwa, .int (nI m), .ref hnu, .int hto])), (hk, .inl (V.2.2.1, 7, .inl k)), (hwb, .inl (V.2.2.1, 7, .inl wb)), (hld, .inl (V.2.2.1, 9, .inl (nIf ld))), (hte, .inl (V.2.2.1, 9, .inl (nIf te))), (hpu, .inl (V.2.2.1, 9, .inl (nIf pu)))] (fun u : (Nat → Int32) => u = daysF k wb ld te pu n m g day q w) (fun u => [(s, .inr (8, [.ref h, .ref sw, .ref sg, .int (day + nI q)])), (sw, .inl (V.2.2.1, 7, .inl u)), (sg, .inl (V.2.2.1, 7, .inl g)), (h, .inr (4, [.ref hk, .ref hfw, .ref hfg, .ref hwb, .ref hld, .ref hte, .ref hpu, .int (nI n), .int hwa, .int (nI m), .ref hnu, .int hto])), (hk, .inl (V.2.2.1, 7, .inl k)), (hwb, .inl (V.2.2.1, 7, .inl wb)), (hld, .inl (V.2.2.1, 9, .inl (nIf ld))), (hte, .inl (V.2.2.1, 9, .inl (nIf te))), (hpu, .inl (V.2.2.1, 9, .inl (nIf pu)))]) := by
  refine Kv.of [some (.ref s), some (.int (nI q)), none] (by decide) (Nat.le_of_ble_eq_true rfl) rfl rfl ?_
  intro Z X E
  have X : gX V Z RX8 cX8_passDays 3 ({ frames := 5, cells := 0, slots := 0, locals := 113 }) := X
  refine g_iconst X (0) dX8_passDays_0 (by decide) ?_
  refine g_istore_n X (L' := [some (.ref s), some (.int (nI q)), some (.int 0)]) dX8_passDays_1 (by decide) rfl rfl ?_
  have loop2 : ∀ (d2 i : Nat), i + d2 = q → ∀ (w1 : Nat → Int32) (dy : Int32) (h1 : w1 = daysF k wb ld te pu n m g day i w) (h2 : dy = day + nI i), G V Z 3 (0, 0) [(s, .inr (8, [.ref h, .ref sw, .ref sg, .int dy])), (sw, .inl (V.2.2.1, 7, .inl w1)), (sg, .inl (V.2.2.1, 7, .inl g)), (h, .inr (4, [.ref hk, .ref hfw, .ref hfg, .ref hwb, .ref hld, .ref hte, .ref hpu, .int (nI n), .int hwa, .int (nI m), .ref hnu, .int hto])), (hk, .inl (V.2.2.1, 7, .inl k)), (hwb, .inl (V.2.2.1, 7, .inl wb)), (hld, .inl (V.2.2.1, 9, .inl (nIf ld))), (hte, .inl (V.2.2.1, 9, .inl (nIf te))), (hpu, .inl (V.2.2.1, 9, .inl (nIf pu)))] 2 [some (.ref s), some (.int (nI q)), some (.int (nI i))] [] := by
    intro d2
    induction d2 with
    | zero =>
      intro i hi w1 dy h1 h2
      refine g_iload_n X dX8_passDays_2 rfl ?_
      refine g_iload_n X dX8_passDays_3 rfl ?_
      refine g_icmp_ge X 18 dX8_passDays_4 (by decide) (fun c4_1 => ?_) (fun c4_1 => absurd (tge (a := i) (b := q) (by omega) (by omega) (by omega)) c4_1)
      exact g_vret X E dX8_passDays_18 w1 (by have e : i = q := (by omega); subst e; exact h1) (by have e : i = q := (by omega); subst e; rw [h2])
    | succ d2 ih2 =>
      intro i hi w1 dy h1 h2
      refine g_iload_n X dX8_passDays_2 rfl ?_
      refine g_iload_n X dX8_passDays_3 rfl ?_
      refine g_icmp_ge X 18 dX8_passDays_4 (by decide) (fun c4_2 => absurd c4_2 (fge (a := i) (b := q) (by omega) (by omega) (by omega))) (fun c4_2 => ?_)
      refine g_aload_n X dX8_passDays_7 rfl ?_
      refine g_iconst X (1) dX8_passDays_8 (by decide) ?_
      refine g_callVv X (c_X8_passDay V s sw sg dy w1 g h hk hfw hfg hwb hld hte hpu hnu n m hwa hto k wb ld te pu 1 (by omega) (by omega) ht) mo_X8_passDay kl_X8_75 [0, 1, 2, 3, 4, 5, 6, 7, 8] [1, 2, 3, 4, 5, 6, 7, 8, 9] rfl (by decide +kernel) rfl rfl (fun _ => Nat.le_of_ble_eq_true rfl) 0 8 rfl rfl (As := [.int 1]) (st := []) (cs' := (0, 0)) rfl rfl rfl rfl dX8_passDays_9 (fun nw_3 hp_4 ws_6 hw_5 => ?_)
      obtain rfl : nw_3 = dayF k wb ld te pu n m g 1 dy w1 := hp_4
      have hw_5x : ws_6 = [(s, .inr (8, [.ref h, .ref sw, .ref sg, .int (dy + 1)])), (sw, .inl (V.2.2.1, 7, .inl (dayF k wb ld te pu n m g 1 dy w1))), (sg, .inl (V.2.2.1, 7, .inl g)), (h, .inr (4, [.ref hk, .ref hfw, .ref hfg, .ref hwb, .ref hld, .ref hte, .ref hpu, .int (nI n), .int hwa, .int (nI m), .ref hnu, .int hto])), (hk, .inl (V.2.2.1, 7, .inl k)), (hwb, .inl (V.2.2.1, 7, .inl wb)), (hld, .inl (V.2.2.1, 9, .inl (nIf ld))), (hte, .inl (V.2.2.1, 9, .inl (nIf te))), (hpu, .inl (V.2.2.1, 9, .inl (nIf pu)))] := hw_5.symm
      clear hw_5; subst hw_5x
      refine g_iinc X (v := nI (i + 1)) (L' := [some (.ref s), some (.int (nI q)), some (.int (nI (i + 1)))]) dX8_passDays_12 rfl (nI_addk (by decide)) (by decide) rfl rfl ?_
      refine g_goto X 2 dX8_passDays_15 (by decide) ?_
      exact ih2 (i + 1) (by omega) (dayF k wb ld te pu n m g 1 dy w1) (dy + 1) (by rw [daysF, it_s, ← daysF, ← h1, ← h2]) (by rw [h2, Int32.add_assoc, nI_1])
  exact loop2 q 0 (by omega) w day rfl (by rw [nI_0, Int32.add_zero])

set_option maxHeartbeats 4000000 in
set_option maxRecDepth 100000 in
theorem c_X8_makeAllSeeingWrong (V : gV) (s : Nat) (sw : Nat) (sg : Nat) (day : Int32) (w : Nat → Int32) (h : Nat) (hk : Nat) (hfw : Nat) (hfg : Nat) (hwb : Nat) (hld : Nat) (hte : Nat) (hpu : Nat) (hnu : Nat) (n : Nat) (m : Nat) (hwa : Int32) (hto : Int32) (k : Nat → Int32) (x : Int32) (hn : n ≤ 7) : Kv V yX8_makeAllSeeingWrong cX8_makeAllSeeingWrong 3 ({ frames := 2, cells := 0, slots := 0, locals := 44 }) [.ref s, .int x] [(s, .inr (8, [.ref h, .ref sw, .ref sg, .int day])), (sw, .inl (V.2.2.1, 7, .inl w)), (h, .inr (4, [.ref hk, .ref hfw, .ref hfg, .ref hwb, .ref hld, .ref hte, .ref hpu, .int (nI n), .int hwa, .int (nI m), .ref hnu, .int hto])), (hk, .inl (V.2.2.1, 7, .inl k))] (fun u : (Nat → Int32) => u = seeF k n x w) (fun u => [(s, .inr (8, [.ref h, .ref sw, .ref sg, .int day])), (sw, .inl (V.2.2.1, 7, .inl u)), (h, .inr (4, [.ref hk, .ref hfw, .ref hfg, .ref hwb, .ref hld, .ref hte, .ref hpu, .int (nI n), .int hwa, .int (nI m), .ref hnu, .int hto])), (hk, .inl (V.2.2.1, 7, .inl k))]) := by
  refine Kv.of [some (.ref s), some (.int x), none] (by decide) (Nat.le_of_ble_eq_true rfl) rfl rfl ?_
  intro Z X E
  have X : gX V Z RX8 cX8_makeAllSeeingWrong 3 ({ frames := 2, cells := 0, slots := 0, locals := 44 }) := X
  refine g_iconst X (0) dX8_makeAllSeeingWrong_0 (by decide) ?_
  refine g_istore_n X (L' := [some (.ref s), some (.int x), some (.int 0)]) dX8_makeAllSeeingWrong_1 (by decide) rfl rfl ?_
  have loop2 : ∀ (d2 c : Nat), c + d2 = n → ∀ (w1 : Nat → Int32) (h1 : w1 = seeF k c x w), G V Z 3 (0, 0) [(s, .inr (8, [.ref h, .ref sw, .ref sg, .int day])), (sw, .inl (V.2.2.1, 7, .inl w1)), (h, .inr (4, [.ref hk, .ref hfw, .ref hfg, .ref hwb, .ref hld, .ref hte, .ref hpu, .int (nI n), .int hwa, .int (nI m), .ref hnu, .int hto])), (hk, .inl (V.2.2.1, 7, .inl k))] 2 [some (.ref s), some (.int x), some (.int (nI c))] [] := by
    intro d2
    induction d2 with
    | zero =>
      intro c hc w1 h1
      refine g_iload_n X dX8_makeAllSeeingWrong_2 rfl ?_
      refine g_aload_n X dX8_makeAllSeeingWrong_3 rfl ?_
      refine g_get X uwX8 0 rfl rfl 0 (by decide) kl_X8_22 rfl rfl gwX8 dX8_makeAllSeeingWrong_4 ?_
      refine g_getN X uwX4 2 rfl rfl 7 (by decide) kl_X8_51 rfl rfl gwX4 dX8_makeAllSeeingWrong_7 ?_
      refine g_icmp_ge X 37 dX8_makeAllSeeingWrong_10 (by decide) (fun c10_1 => ?_) (fun c10_1 => absurd (tge (a := c) (b := n) (by omega) (by omega) (by omega)) c10_1)
      exact g_vret X E dX8_makeAllSeeingWrong_37 w1 (by have e : c = n := (by omega); subst e; exact h1) rfl
    | succ d2 ih2 =>
      intro c hc w1 h1
      refine g_iload_n X dX8_makeAllSeeingWrong_2 rfl ?_
      refine g_aload_n X dX8_makeAllSeeingWrong_3 rfl ?_
      refine g_get X uwX8 0 rfl rfl 0 (by decide) kl_X8_22 rfl rfl gwX8 dX8_makeAllSeeingWrong_4 ?_
      refine g_getN X uwX4 2 rfl rfl 7 (by decide) kl_X8_51 rfl rfl gwX4 dX8_makeAllSeeingWrong_7 ?_
      refine g_icmp_ge X 37 dX8_makeAllSeeingWrong_10 (by decide) (fun c10_2 => absurd c10_2 (fge (a := c) (b := n) (by omega) (by omega) (by omega))) (fun c10_2 => ?_)
      refine g_aload_n X dX8_makeAllSeeingWrong_13 rfl ?_
      refine g_get X uwX8 0 rfl rfl 0 (by decide) kl_X8_22 rfl rfl gwX8 dX8_makeAllSeeingWrong_14 ?_
      refine g_iload_n X dX8_makeAllSeeingWrong_17 rfl ?_
      refine g_callVi X (c_X4_kindOf V h hk hfw hfg hwb hld hte hpu hnu n m hwa hto k c (by omega)) mo_X4_kindOf kl_X8_54 [2, 3] [0, 0, 1, 2] rfl (by decide +kernel) rfl rfl (fun _ => Nat.le_of_ble_eq_true rfl) 2 4 rfl rfl (As := [.int (nI c)]) (st := []) (cs' := (0, 0)) rfl rfl rfl rfl dX8_makeAllSeeingWrong_18 (fun r_7 u_3 hp_4 ws_6 hw_5 => ?_)
      obtain rfl : r_7 = k c := hp_4
      have hw_5x : ws_6 = [(s, .inr (8, [.ref h, .ref sw, .ref sg, .int day])), (sw, .inl (V.2.2.1, 7, .inl w1)), (h, .inr (4, [.ref hk, .ref hfw, .ref hfg, .ref hwb, .ref hld, .ref hte, .ref hpu, .int (nI n), .int hwa, .int (nI m), .ref hnu, .int hto])), (hk, .inl (V.2.2.1, 7, .inl k))] := hw_5.symm
      clear hw_5; subst hw_5x
      refine g_iconst X (3) dX8_makeAllSeeingWrong_21 (by decide) ?_
      refine g_icmp_eq X 31 dX8_makeAllSeeingWrong_22 (by decide) (fun c22_8 => ?_) (fun c22_8 => ?_)
      · refine g_iinc X (v := nI (c + 1)) (L' := [some (.ref s), some (.int x), some (.int (nI (c + 1)))]) dX8_makeAllSeeingWrong_31 rfl (nI_addk (by decide)) (by decide) rfl rfl ?_
        refine g_goto X 2 dX8_makeAllSeeingWrong_34 (by decide) ?_
        exact ih2 (c + 1) (by omega) w1 (by rw [seeF, it_s, ← seeF, ← h1]; simp [c22_8])
      · refine g_aload_n X dX8_makeAllSeeingWrong_25 rfl ?_
        refine g_iload_n X dX8_makeAllSeeingWrong_26 rfl ?_
        refine g_iload_n X dX8_makeAllSeeingWrong_27 rfl ?_
        refine g_callVv X (c_X8_makeWrong V s sw sg day w1 h c x (by omega)) mo_X8_makeWrong kl_X8_58 [0, 1] [1, 2, 0, 0] rfl (by decide +kernel) rfl rfl (fun _ => Nat.le_of_ble_eq_true rfl) 0 8 rfl rfl (As := [.int (nI c), .int x]) (st := []) (cs' := (0, 0)) rfl rfl rfl rfl dX8_makeAllSeeingWrong_28 (fun nw_9 hp_10 ws_12 hw_11 => ?_)
        obtain rfl : nw_9 = upd w1 c (clampF x) := hp_10
        have hw_11x : ws_12 = [(s, .inr (8, [.ref h, .ref sw, .ref sg, .int day])), (sw, .inl (V.2.2.1, 7, .inl (upd w1 c (clampF x)))), (h, .inr (4, [.ref hk, .ref hfw, .ref hfg, .ref hwb, .ref hld, .ref hte, .ref hpu, .int (nI n), .int hwa, .int (nI m), .ref hnu, .int hto])), (hk, .inl (V.2.2.1, 7, .inl k))] := hw_11.symm
        clear hw_11; subst hw_11x
        refine g_iinc X (v := nI (c + 1)) (L' := [some (.ref s), some (.int x), some (.int (nI (c + 1)))]) dX8_makeAllSeeingWrong_31 rfl (nI_addk (by decide)) (by decide) rfl rfl ?_
        refine g_goto X 2 dX8_makeAllSeeingWrong_34 (by decide) ?_
        exact ih2 (c + 1) (by omega) (upd w1 c (clampF x)) (by rw [seeF, it_s, ← seeF, ← h1]; simp [c22_8])
  exact loop2 n 0 (by omega) w rfl

set_option maxHeartbeats 4000000 in
set_option maxRecDepth 100000 in
theorem c_X8_rightOnes (V : gV) (s : Nat) (sw : Nat) (sg : Nat) (day : Int32) (w : Nat → Int32) (h : Nat) (hk : Nat) (hfw : Nat) (hfg : Nat) (hwb : Nat) (hld : Nat) (hte : Nat) (hpu : Nat) (hnu : Nat) (n : Nat) (m : Nat) (hwa : Int32) (hto : Int32) (hn : n ≤ 7) : Ki V yX8_rightOnes cX8_rightOnes 3 .int ({ frames := 2, cells := 0, slots := 0, locals := 42 }) [.ref s] [(s, .inr (8, [.ref h, .ref sw, .ref sg, .int day])), (sw, .inl (V.2.2.1, 7, .inl w)), (h, .inr (4, [.ref hk, .ref hfw, .ref hfg, .ref hwb, .ref hld, .ref hte, .ref hpu, .int (nI n), .int hwa, .int (nI m), .ref hnu, .int hto]))] (fun (r : Int32) (u : Unit) => r = nI (rightF n w)) (fun u => [(s, .inr (8, [.ref h, .ref sw, .ref sg, .int day])), (sw, .inl (V.2.2.1, 7, .inl w)), (h, .inr (4, [.ref hk, .ref hfw, .ref hfg, .ref hwb, .ref hld, .ref hte, .ref hpu, .int (nI n), .int hwa, .int (nI m), .ref hnu, .int hto]))]) := by
  refine Ki.of [some (.ref s), none, none] (by decide) (Nat.le_of_ble_eq_true rfl) rfl rfl ?_
  intro Z X E
  have X : gX V Z RX8 cX8_rightOnes 3 ({ frames := 2, cells := 0, slots := 0, locals := 42 }) := X
  refine g_iconst X (0) dX8_rightOnes_0 (by decide) ?_
  refine g_istore_n X (L' := [some (.ref s), some (.int 0), none]) dX8_rightOnes_1 (by decide) rfl rfl ?_
  refine g_iconst X (0) dX8_rightOnes_2 (by decide) ?_
  refine g_istore_n X (L' := [some (.ref s), some (.int 0), some (.int 0)]) dX8_rightOnes_3 (by decide) rfl rfl ?_
  have loop4 : ∀ (d4 c : Nat), c + d4 = n → ∀ (o : Nat) (h1 : o = rightF c w), G V Z 3 (0, 0) [(s, .inr (8, [.ref h, .ref sw, .ref sg, .int day])), (sw, .inl (V.2.2.1, 7, .inl w)), (h, .inr (4, [.ref hk, .ref hfw, .ref hfg, .ref hwb, .ref hld, .ref hte, .ref hpu, .int (nI n), .int hwa, .int (nI m), .ref hnu, .int hto]))] 4 [some (.ref s), some (.int (nI o)), some (.int (nI c))] [] := by
    intro d4
    induction d4 with
    | zero =>
      intro c hc o h1
      refine g_iload_n X dX8_rightOnes_4 rfl ?_
      refine g_aload_n X dX8_rightOnes_5 rfl ?_
      refine g_get X uwX8 0 rfl rfl 0 (by decide) kl_X8_22 rfl rfl gwX8 dX8_rightOnes_6 ?_
      refine g_getN X uwX4 2 rfl rfl 7 (by decide) kl_X8_51 rfl rfl gwX4 dX8_rightOnes_9 ?_
      refine g_icmp_ge X 37 dX8_rightOnes_12 (by decide) (fun c12_1 => ?_) (fun c12_1 => absurd (tge (a := c) (b := n) (by omega) (by omega) (by omega)) c12_1)
      refine g_iload_n X dX8_rightOnes_37 rfl ?_
      exact g_iret X E dX8_rightOnes_38 () (nI o) (by have e : c = n := (by omega); subst e; rw [h1]) rfl
    | succ d4 ih4 =>
      intro c hc o h1
      refine g_iload_n X dX8_rightOnes_4 rfl ?_
      refine g_aload_n X dX8_rightOnes_5 rfl ?_
      refine g_get X uwX8 0 rfl rfl 0 (by decide) kl_X8_22 rfl rfl gwX8 dX8_rightOnes_6 ?_
      refine g_getN X uwX4 2 rfl rfl 7 (by decide) kl_X8_51 rfl rfl gwX4 dX8_rightOnes_9 ?_
      refine g_icmp_ge X 37 dX8_rightOnes_12 (by decide) (fun c12_2 => absurd c12_2 (fge (a := c) (b := n) (by omega) (by omega) (by omega))) (fun c12_2 => ?_)
      refine g_iload_n X dX8_rightOnes_15 rfl ?_
      refine g_aload_n X dX8_rightOnes_16 rfl ?_
      refine g_iload_n X dX8_rightOnes_17 rfl ?_
      refine g_callVi X (c_X8_wrongOf V s sw sg day w h c (by omega)) mo_X8_wrongOf kl_X8_85 [0, 1] [1, 2, 0] rfl (by decide +kernel) rfl rfl (fun _ => Nat.le_of_ble_eq_true rfl) 0 8 rfl rfl (As := [.int (nI c)]) (st := [.int (nI o)]) (cs' := (0, 0)) rfl rfl rfl rfl dX8_rightOnes_18 (fun r_7 u_3 hp_4 ws_6 hw_5 => ?_)
      obtain rfl : r_7 = w c := hp_4
      have hw_5x : ws_6 = [(s, .inr (8, [.ref h, .ref sw, .ref sg, .int day])), (sw, .inl (V.2.2.1, 7, .inl w)), (h, .inr (4, [.ref hk, .ref hfw, .ref hfg, .ref hwb, .ref hld, .ref hte, .ref hpu, .int (nI n), .int hwa, .int (nI m), .ref hnu, .int hto]))] := hw_5.symm
      clear hw_5; subst hw_5x
      refine g_if_ne X 28 dX8_rightOnes_21 (by decide) (fun c21_8 => ?_) (fun c21_8 => ?_)
      · refine g_iconst X (0) dX8_rightOnes_28 (by decide) ?_
        refine g_iadd X dX8_rightOnes_29 ?_
        refine g_toe (x' := nI (o + 0)) (nI_add' rfl rfl) ?_
        refine g_istore_n X (L' := [some (.ref s), some (.int (nI (o + 0))), some (.int (nI c))]) dX8_rightOnes_30 (by decide) rfl rfl ?_
        refine g_iinc X (v := nI (c + 1)) (L' := [some (.ref s), some (.int (nI (o + 0))), some (.int (nI (c + 1)))]) dX8_rightOnes_31 rfl (nI_addk (by decide)) (by decide) rfl rfl ?_
        refine g_goto X 4 dX8_rightOnes_34 (by decide) ?_
        exact ih4 (c + 1) (by omega) (o + 0) (by rw [rightF, cnt_s, ← rightF, ← h1]; simp [c21_8])
      · refine g_iconst X (1) dX8_rightOnes_24 (by decide) ?_
        refine g_goto X 29 dX8_rightOnes_25 (by decide) ?_
        refine g_iadd X dX8_rightOnes_29 ?_
        refine g_toe (x' := nI (o + 1)) (nI_add' rfl rfl) ?_
        refine g_istore_n X (L' := [some (.ref s), some (.int (nI (o + 1))), some (.int (nI c))]) dX8_rightOnes_30 (by decide) rfl rfl ?_
        refine g_iinc X (v := nI (c + 1)) (L' := [some (.ref s), some (.int (nI (o + 1))), some (.int (nI (c + 1)))]) dX8_rightOnes_31 rfl (nI_addk (by decide)) (by decide) rfl rfl ?_
        refine g_goto X 4 dX8_rightOnes_34 (by decide) ?_
        exact ih4 (c + 1) (by omega) (o + 1) (by rw [rightF, cnt_s, ← rightF, ← h1]; simp [c21_8])
  exact loop4 n 0 (by omega) 0 rfl

set_option maxHeartbeats 4000000 in
set_option maxRecDepth 100000 in
theorem c_X8_wrongTogether (V : gV) (s : Nat) (sw : Nat) (sg : Nat) (day : Int32) (w : Nat → Int32) (h : Nat) (hk : Nat) (hfw : Nat) (hfg : Nat) (hwb : Nat) (hld : Nat) (hte : Nat) (hpu : Nat) (hnu : Nat) (n : Nat) (m : Nat) (hwa : Int32) (hto : Int32) (hn : n ≤ 7) : Ki V yX8_wrongTogether cX8_wrongTogether 3 .int ({ frames := 2, cells := 0, slots := 0, locals := 42 }) [.ref s] [(s, .inr (8, [.ref h, .ref sw, .ref sg, .int day])), (sw, .inl (V.2.2.1, 7, .inl w)), (h, .inr (4, [.ref hk, .ref hfw, .ref hfg, .ref hwb, .ref hld, .ref hte, .ref hpu, .int (nI n), .int hwa, .int (nI m), .ref hnu, .int hto]))] (fun (r : Int32) (u : Unit) => r = togF n w) (fun u => [(s, .inr (8, [.ref h, .ref sw, .ref sg, .int day])), (sw, .inl (V.2.2.1, 7, .inl w)), (h, .inr (4, [.ref hk, .ref hfw, .ref hfg, .ref hwb, .ref hld, .ref hte, .ref hpu, .int (nI n), .int hwa, .int (nI m), .ref hnu, .int hto]))]) := by
  refine Ki.of [some (.ref s), none, none] (by decide) (Nat.le_of_ble_eq_true rfl) rfl rfl ?_
  intro Z X E
  have X : gX V Z RX8 cX8_wrongTogether 3 ({ frames := 2, cells := 0, slots := 0, locals := 42 }) := X
  refine g_iconst X (0) dX8_wrongTogether_0 (by decide) ?_
  refine g_istore_n X (L' := [some (.ref s), some (.int 0), none]) dX8_wrongTogether_1 (by decide) rfl rfl ?_
  refine g_iconst X (0) dX8_wrongTogether_2 (by decide) ?_
  refine g_istore_n X (L' := [some (.ref s), some (.int 0), some (.int 0)]) dX8_wrongTogether_3 (by decide) rfl rfl ?_
  have loop4 : ∀ (d4 c : Nat), c + d4 = n → ∀ (o : Int32) (h1 : o = togF c w), G V Z 3 (0, 0) [(s, .inr (8, [.ref h, .ref sw, .ref sg, .int day])), (sw, .inl (V.2.2.1, 7, .inl w)), (h, .inr (4, [.ref hk, .ref hfw, .ref hfg, .ref hwb, .ref hld, .ref hte, .ref hpu, .int (nI n), .int hwa, .int (nI m), .ref hnu, .int hto]))] 4 [some (.ref s), some (.int o), some (.int (nI c))] [] := by
    intro d4
    induction d4 with
    | zero =>
      intro c hc o h1
      refine g_iload_n X dX8_wrongTogether_4 rfl ?_
      refine g_aload_n X dX8_wrongTogether_5 rfl ?_
      refine g_get X uwX8 0 rfl rfl 0 (by decide) kl_X8_22 rfl rfl gwX8 dX8_wrongTogether_6 ?_
      refine g_getN X uwX4 2 rfl rfl 7 (by decide) kl_X8_51 rfl rfl gwX4 dX8_wrongTogether_9 ?_
      refine g_icmp_ge X 32 dX8_wrongTogether_12 (by decide) (fun c12_1 => ?_) (fun c12_1 => absurd (tge (a := c) (b := n) (by omega) (by omega) (by omega)) c12_1)
      refine g_iload_n X dX8_wrongTogether_32 rfl ?_
      exact g_iret X E dX8_wrongTogether_33 () o (by have e : c = n := (by omega); subst e; rw [h1]) rfl
    | succ d4 ih4 =>
      intro c hc o h1
      refine g_iload_n X dX8_wrongTogether_4 rfl ?_
      refine g_aload_n X dX8_wrongTogether_5 rfl ?_
      refine g_get X uwX8 0 rfl rfl 0 (by decide) kl_X8_22 rfl rfl gwX8 dX8_wrongTogether_6 ?_
      refine g_getN X uwX4 2 rfl rfl 7 (by decide) kl_X8_51 rfl rfl gwX4 dX8_wrongTogether_9 ?_
      refine g_icmp_ge X 32 dX8_wrongTogether_12 (by decide) (fun c12_2 => absurd c12_2 (fge (a := c) (b := n) (by omega) (by omega) (by omega))) (fun c12_2 => ?_)
      refine g_iload_n X dX8_wrongTogether_15 rfl ?_
      refine g_aload_n X dX8_wrongTogether_16 rfl ?_
      refine g_iload_n X dX8_wrongTogether_17 rfl ?_
      refine g_callVi X (c_X8_wrongOf V s sw sg day w h c (by omega)) mo_X8_wrongOf kl_X8_85 [0, 1] [1, 2, 0] rfl (by decide +kernel) rfl rfl (fun _ => Nat.le_of_ble_eq_true rfl) 0 8 rfl rfl (As := [.int (nI c)]) (st := [.int o]) (cs' := (0, 0)) rfl rfl rfl rfl dX8_wrongTogether_18 (fun r_7 u_3 hp_4 ws_6 hw_5 => ?_)
      obtain rfl : r_7 = w c := hp_4
      have hw_5x : ws_6 = [(s, .inr (8, [.ref h, .ref sw, .ref sg, .int day])), (sw, .inl (V.2.2.1, 7, .inl w)), (h, .inr (4, [.ref hk, .ref hfw, .ref hfg, .ref hwb, .ref hld, .ref hte, .ref hpu, .int (nI n), .int hwa, .int (nI m), .ref hnu, .int hto]))] := hw_5.symm
      clear hw_5; subst hw_5x
      refine g_mabs X kl_X8_113 dX8_wrongTogether_21 (by decide) (Nat.le_of_ble_eq_true rfl) (by decide) (by decide) ?_
      refine g_iadd X dX8_wrongTogether_24 ?_
      refine g_istore_n X (L' := [some (.ref s), some (.int (o + (absF (w c)))), some (.int (nI c))]) dX8_wrongTogether_25 (by decide) rfl rfl ?_
      refine g_iinc X (v := nI (c + 1)) (L' := [some (.ref s), some (.int (o + (absF (w c)))), some (.int (nI (c + 1)))]) dX8_wrongTogether_26 rfl (nI_addk (by decide)) (by decide) rfl rfl ?_
      refine g_goto X 4 dX8_wrongTogether_29 (by decide) ?_
      exact ih4 (c + 1) (by omega) (o + (absF (w c))) (by rw [togF, it_s, ← togF, ← h1])
  exact loop4 n 0 (by omega) 0 rfl

set_option maxHeartbeats 4000000 in
set_option maxRecDepth 100000 in
theorem c_X8_isWithin (V : gV) (s : Nat) (sw : Nat) (sg : Nat) (day : Int32) (w : Nat → Int32) (h : Nat) (hk : Nat) (hfw : Nat) (hfg : Nat) (hwb : Nat) (hld : Nat) (hte : Nat) (hpu : Nat) (hnu : Nat) (n : Nat) (m : Nat) (hwa : Int32) (hto : Int32) (x : Int32) (hn : n ≤ 7) : Ki V yX8_isWithin cX8_isWithin 3 .boolean ({ frames := 2, cells := 0, slots := 0, locals := 42 }) [.ref s, .int x] [(s, .inr (8, [.ref h, .ref sw, .ref sg, .int day])), (sw, .inl (V.2.2.1, 7, .inl w)), (h, .inr (4, [.ref hk, .ref hfw, .ref hfg, .ref hwb, .ref hld, .ref hte, .ref hpu, .int (nI n), .int hwa, .int (nI m), .ref hnu, .int hto]))] (fun (r : Int32) (u : Unit) => r = wiF n x w) (fun u => [(s, .inr (8, [.ref h, .ref sw, .ref sg, .int day])), (sw, .inl (V.2.2.1, 7, .inl w)), (h, .inr (4, [.ref hk, .ref hfw, .ref hfg, .ref hwb, .ref hld, .ref hte, .ref hpu, .int (nI n), .int hwa, .int (nI m), .ref hnu, .int hto]))]) := by
  refine Ki.of [some (.ref s), some (.int x), none] (by decide) (Nat.le_of_ble_eq_true rfl) rfl rfl ?_
  intro Z X E
  have X : gX V Z RX8 cX8_isWithin 3 ({ frames := 2, cells := 0, slots := 0, locals := 42 }) := X
  refine g_iconst X (0) dX8_isWithin_0 (by decide) ?_
  refine g_istore_n X (L' := [some (.ref s), some (.int x), some (.int 0)]) dX8_isWithin_1 (by decide) rfl rfl ?_
  have loop2 : ∀ (d2 c : Nat), c + d2 = n → ∀  (h1 : fst1 (wiP x w) c = none), G V Z 3 (0, 0) [(s, .inr (8, [.ref h, .ref sw, .ref sg, .int day])), (sw, .inl (V.2.2.1, 7, .inl w)), (h, .inr (4, [.ref hk, .ref hfw, .ref hfg, .ref hwb, .ref hld, .ref hte, .ref hpu, .int (nI n), .int hwa, .int (nI m), .ref hnu, .int hto]))] 2 [some (.ref s), some (.int x), some (.int (nI c))] [] := by
    intro d2
    induction d2 with
    | zero =>
      intro c hc h1
      refine g_iload_n X dX8_isWithin_2 rfl ?_
      refine g_aload_n X dX8_isWithin_3 rfl ?_
      refine g_get X uwX8 0 rfl rfl 0 (by decide) kl_X8_22 rfl rfl gwX8 dX8_isWithin_4 ?_
      refine g_getN X uwX4 2 rfl rfl 7 (by decide) kl_X8_51 rfl rfl gwX4 dX8_isWithin_7 ?_
      refine g_icmp_ge X 33 dX8_isWithin_10 (by decide) (fun c10_1 => ?_) (fun c10_1 => absurd (tge (a := c) (b := n) (by omega) (by omega) (by omega)) c10_1)
      refine g_iconst X (1) dX8_isWithin_33 (by decide) ?_
      exact g_zret X E dX8_isWithin_34 () 1 rfl (by have e : c = n := (by omega); subst e; rw [wiF, h1]; rfl) rfl
    | succ d2 ih2 =>
      intro c hc h1
      refine g_iload_n X dX8_isWithin_2 rfl ?_
      refine g_aload_n X dX8_isWithin_3 rfl ?_
      refine g_get X uwX8 0 rfl rfl 0 (by decide) kl_X8_22 rfl rfl gwX8 dX8_isWithin_4 ?_
      refine g_getN X uwX4 2 rfl rfl 7 (by decide) kl_X8_51 rfl rfl gwX4 dX8_isWithin_7 ?_
      refine g_icmp_ge X 33 dX8_isWithin_10 (by decide) (fun c10_2 => absurd c10_2 (fge (a := c) (b := n) (by omega) (by omega) (by omega))) (fun c10_2 => ?_)
      refine g_aload_n X dX8_isWithin_13 rfl ?_
      refine g_iload_n X dX8_isWithin_14 rfl ?_
      refine g_callVi X (c_X8_wrongOf V s sw sg day w h c (by omega)) mo_X8_wrongOf kl_X8_85 [0, 1] [1, 2, 0] rfl (by decide +kernel) rfl rfl (fun _ => Nat.le_of_ble_eq_true rfl) 0 8 rfl rfl (As := [.int (nI c)]) (st := []) (cs' := (0, 0)) rfl rfl rfl rfl dX8_isWithin_15 (fun r_7 u_3 hp_4 ws_6 hw_5 => ?_)
      obtain rfl : r_7 = w c := hp_4
      have hw_5x : ws_6 = [(s, .inr (8, [.ref h, .ref sw, .ref sg, .int day])), (sw, .inl (V.2.2.1, 7, .inl w)), (h, .inr (4, [.ref hk, .ref hfw, .ref hfg, .ref hwb, .ref hld, .ref hte, .ref hpu, .int (nI n), .int hwa, .int (nI m), .ref hnu, .int hto]))] := hw_5.symm
      clear hw_5; subst hw_5x
      refine g_mabs X kl_X8_113 dX8_isWithin_18 (by decide) (Nat.le_of_ble_eq_true rfl) (by decide) (by decide) ?_
      refine g_iload_n X dX8_isWithin_21 rfl ?_
      refine g_icmp_le X 27 dX8_isWithin_22 (by decide) (fun c22_8 => ?_) (fun c22_8 => ?_)
      · have c22_8d := Int32.not_lt.mpr c22_8
        refine g_iinc X (v := nI (c + 1)) (L' := [some (.ref s), some (.int x), some (.int (nI (c + 1)))]) dX8_isWithin_27 rfl (nI_addk (by decide)) (by decide) rfl rfl ?_
        refine g_goto X 2 dX8_isWithin_30 (by decide) ?_
        exact ih2 (c + 1) (by omega) (fst1_n h1 (by rw [wiP]; simp [c22_8, c22_8d]))
      · have c22_8d := Int32.not_le.mp c22_8
        refine g_iconst X (0) dX8_isWithin_25 (by decide) ?_
        exact g_zret X E dX8_isWithin_26 () 0 rfl (by rw [wiF, fst1_at (r := 0) h1 (by rw [wiP]; simp [c22_8, c22_8d]) (by omega)]; rfl) rfl
  exact loop2 n 0 (by omega) rfl

set_option maxHeartbeats 4000000 in
set_option maxRecDepth 100000 in
theorem c_X8_isDull (V : gV) (s : Nat) (sw : Nat) (sg : Nat) (day : Int32) (w : Nat → Int32) (h : Nat) (hk : Nat) (hfw : Nat) (hfg : Nat) (hwb : Nat) (hld : Nat) (hte : Nat) (hpu : Nat) (hnu : Nat) (n : Nat) (m : Nat) (hwa : Int32) (hto : Int32) (k : Nat → Int32) (c : Nat) (hn : n ≤ 7) (hc : c < 7) : Ki V yX8_isDull cX8_isDull 4 .boolean ({ frames := 2, cells := 0, slots := 0, locals := 45 }) [.ref s, .int (nI c)] [(s, .inr (8, [.ref h, .ref sw, .ref sg, .int day])), (sw, .inl (V.2.2.1, 7, .inl w)), (h, .inr (4, [.ref hk, .ref hfw, .ref hfg, .ref hwb, .ref hld, .ref hte, .ref hpu, .int (nI n), .int hwa, .int (nI m), .ref hnu, .int hto])), (hk, .inl (V.2.2.1, 7, .inl k))] (fun (r : Int32) (u : Unit) => r = dullF k day n w c) (fun u => [(s, .inr (8, [.ref h, .ref sw, .ref sg, .int day])), (sw, .inl (V.2.2.1, 7, .inl w)), (h, .inr (4, [.ref hk, .ref hfw, .ref hfg, .ref hwb, .ref hld, .ref hte, .ref hpu, .int (nI n), .int hwa, .int (nI m), .ref hnu, .int hto])), (hk, .inl (V.2.2.1, 7, .inl k))]) := by
  refine Ki.of [some (.ref s), some (.int (nI c)), none, none] (by decide) (Nat.le_of_ble_eq_true rfl) rfl rfl ?_
  intro Z X E
  have X : gX V Z RX8 cX8_isDull 4 ({ frames := 2, cells := 0, slots := 0, locals := 45 }) := X
  refine g_aload_n X dX8_isDull_0 rfl ?_
  refine g_iload_n X dX8_isDull_1 rfl ?_
  refine g_callVi X (c_X8_wrongOf V s sw sg day w h c (by omega)) mo_X8_wrongOf kl_X8_85 [0, 1] [1, 2, 0, 0] rfl (by decide +kernel) rfl rfl (fun _ => Nat.le_of_ble_eq_true rfl) 0 8 rfl rfl (As := [.int (nI c)]) (st := []) (cs' := (0, 0)) rfl rfl rfl rfl dX8_isDull_2 (fun r_5 u_1 hp_2 ws_4 hw_3 => ?_)
  obtain rfl : r_5 = w c := hp_2
  have hw_3x : ws_4 = [(s, .inr (8, [.ref h, .ref sw, .ref sg, .int day])), (sw, .inl (V.2.2.1, 7, .inl w)), (h, .inr (4, [.ref hk, .ref hfw, .ref hfg, .ref hwb, .ref hld, .ref hte, .ref hpu, .int (nI n), .int hwa, .int (nI m), .ref hnu, .int hto])), (hk, .inl (V.2.2.1, 7, .inl k))] := hw_3.symm
  clear hw_3; subst hw_3x
  refine g_mabs X kl_X8_113 dX8_isDull_5 (by decide) (Nat.le_of_ble_eq_true rfl) (by decide) (by decide) ?_
  refine g_istore_n X (L' := [some (.ref s), some (.int (nI c)), some (.int (absF (w c))), none]) dX8_isDull_8 (by decide) rfl rfl ?_
  refine g_iconst X (0) dX8_isDull_9 (by decide) ?_
  refine g_istore_n X (L' := [some (.ref s), some (.int (nI c)), some (.int (absF (w c))), some (.int 0)]) dX8_isDull_10 (by decide) rfl rfl ?_
  have loop11_6 : ∀ (d11 a : Nat), a + d11 = n → ∀  (h1 : fst1 (dullP k day w c) a = none), G V Z 4 (0, 0) [(s, .inr (8, [.ref h, .ref sw, .ref sg, .int day])), (sw, .inl (V.2.2.1, 7, .inl w)), (h, .inr (4, [.ref hk, .ref hfw, .ref hfg, .ref hwb, .ref hld, .ref hte, .ref hpu, .int (nI n), .int hwa, .int (nI m), .ref hnu, .int hto])), (hk, .inl (V.2.2.1, 7, .inl k))] 11 [some (.ref s), some (.int (nI c)), some (.int (absF (w c))), some (.int (nI a))] [] := by
    intro d11
    induction d11 with
    | zero =>
      intro a ha h1
      refine g_iload_n X dX8_isDull_11 rfl ?_
      refine g_aload_n X dX8_isDull_12 rfl ?_
      refine g_get X uwX8 0 rfl rfl 0 (by decide) kl_X8_22 rfl rfl gwX8 dX8_isDull_13 ?_
      refine g_getN X uwX4 2 rfl rfl 7 (by decide) kl_X8_51 rfl rfl gwX4 dX8_isDull_16 ?_
      refine g_icmp_ge X 56 dX8_isDull_19 (by decide) (fun c19_7 => ?_) (fun c19_7 => absurd (tge (a := a) (b := n) (by omega) (by omega) (by omega)) c19_7)
      refine g_iload_n X dX8_isDull_56 rfl ?_
      refine g_if_eq X 64 dX8_isDull_57 (by decide) (fun c57_8 => ?_) (fun c57_8 => ?_)
      · refine g_iconst X (0) dX8_isDull_64 (by decide) ?_
        exact g_zret X E dX8_isDull_65 () 0 rfl (by have e : a = n := (by omega); subst e; rw [dullF, h1]; simp [c57_8]) rfl
      · refine g_iconst X (1) dX8_isDull_60 (by decide) ?_
        refine g_goto X 65 dX8_isDull_61 (by decide) ?_
        exact g_zret X E dX8_isDull_65 () 1 rfl (by have e : a = n := (by omega); subst e; rw [dullF, h1]; simp [c57_8]) rfl
    | succ d11 ih11 =>
      intro a ha h1
      refine g_iload_n X dX8_isDull_11 rfl ?_
      refine g_aload_n X dX8_isDull_12 rfl ?_
      refine g_get X uwX8 0 rfl rfl 0 (by decide) kl_X8_22 rfl rfl gwX8 dX8_isDull_13 ?_
      refine g_getN X uwX4 2 rfl rfl 7 (by decide) kl_X8_51 rfl rfl gwX4 dX8_isDull_16 ?_
      refine g_icmp_ge X 56 dX8_isDull_19 (by decide) (fun c19_9 => absurd c19_9 (fge (a := a) (b := n) (by omega) (by omega) (by omega))) (fun c19_9 => ?_)
      refine g_iload_n X dX8_isDull_22 rfl ?_
      refine g_iload_n X dX8_isDull_23 rfl ?_
      refine g_icmp_eq X 50 dX8_isDull_24 (by decide) (fun c24_10 => ?_) (fun c24_10 => ?_)
      · have c24_10n := ieq' (a := a) (b := c) c24_10 (by omega) (by omega)
        refine g_iinc X (v := nI (a + 1)) (L' := [some (.ref s), some (.int (nI c)), some (.int (absF (w c))), some (.int (nI (a + 1)))]) dX8_isDull_50 rfl (nI_addk (by decide)) (by decide) rfl rfl ?_
        refine g_goto X 11 dX8_isDull_53 (by decide) ?_
        exact ih11 (a + 1) (by omega) (fst1_n h1 (by rw [dullP]; simp [c24_10, c24_10n]))
      · have c24_10n := ine' (a := a) (b := c) c24_10 (by omega) (by omega)
        refine g_aload_n X dX8_isDull_27 rfl ?_
        refine g_iload_n X dX8_isDull_28 rfl ?_
        refine g_callVi X (c_X8_canLearn V s sw sg day h hk hfw hfg hwb hld hte hpu hnu n m hwa hto k c (by omega)) mo_X8_canLearn kl_X8_68 [0, 2, 3] [1, 0, 2, 3] rfl (by decide +kernel) rfl rfl (fun _ => Nat.le_of_ble_eq_true rfl) 0 8 rfl rfl (As := [.int (nI c)]) (st := []) (cs' := (0, 0)) rfl rfl rfl rfl dX8_isDull_29 (fun r_15 u_11 hp_12 ws_14 hw_13 => ?_)
        obtain rfl : r_15 = canF (k c) day := hp_12
        have hw_13x : ws_14 = [(s, .inr (8, [.ref h, .ref sw, .ref sg, .int day])), (sw, .inl (V.2.2.1, 7, .inl w)), (h, .inr (4, [.ref hk, .ref hfw, .ref hfg, .ref hwb, .ref hld, .ref hte, .ref hpu, .int (nI n), .int hwa, .int (nI m), .ref hnu, .int hto])), (hk, .inl (V.2.2.1, 7, .inl k))] := hw_13.symm
        clear hw_13; subst hw_13x
        refine g_if_eq X 50 dX8_isDull_32 (by decide) (fun c32_16 => ?_) (fun c32_16 => ?_)
        · refine g_iinc X (v := nI (a + 1)) (L' := [some (.ref s), some (.int (nI c)), some (.int (absF (w c))), some (.int (nI (a + 1)))]) dX8_isDull_50 rfl (nI_addk (by decide)) (by decide) rfl rfl ?_
          refine g_goto X 11 dX8_isDull_53 (by decide) ?_
          exact ih11 (a + 1) (by omega) (fst1_n h1 (by rw [dullP]; simp [c24_10, c24_10n, c32_16]))
        · refine g_aload_n X dX8_isDull_35 rfl ?_
          refine g_iload_n X dX8_isDull_36 rfl ?_
          refine g_iload_n X dX8_isDull_37 rfl ?_
          refine g_callVi X (c_X8_wrongWhenTaught V s sw sg day w h hk hfw hfg hwb hld hte hpu hnu n m hwa hto k a c (by omega) (by omega)) mo_X8_wrongWhenTaught kl_X8_72 [0, 1, 2, 3] [1, 2, 3, 4] rfl (by decide +kernel) rfl rfl (fun _ => Nat.le_of_ble_eq_true rfl) 0 8 rfl rfl (As := [.int (nI a), .int (nI c)]) (st := []) (cs' := (0, 0)) rfl rfl rfl rfl dX8_isDull_38 (fun r_21 u_17 hp_18 ws_20 hw_19 => ?_)
          obtain rfl : r_21 = wwF (k c) (w a) (w c) := hp_18
          have hw_19x : ws_20 = [(s, .inr (8, [.ref h, .ref sw, .ref sg, .int day])), (sw, .inl (V.2.2.1, 7, .inl w)), (h, .inr (4, [.ref hk, .ref hfw, .ref hfg, .ref hwb, .ref hld, .ref hte, .ref hpu, .int (nI n), .int hwa, .int (nI m), .ref hnu, .int hto])), (hk, .inl (V.2.2.1, 7, .inl k))] := hw_19.symm
          clear hw_19; subst hw_19x
          refine g_mabs X kl_X8_113 dX8_isDull_41 (by decide) (Nat.le_of_ble_eq_true rfl) (by decide) (by decide) ?_
          refine g_iload_n X dX8_isDull_44 rfl ?_
          refine g_icmp_ge X 50 dX8_isDull_45 (by decide) (fun c45_22 => ?_) (fun c45_22 => ?_)
          · have c45_22d := Int32.not_lt.mpr c45_22
            refine g_iinc X (v := nI (a + 1)) (L' := [some (.ref s), some (.int (nI c)), some (.int (absF (w c))), some (.int (nI (a + 1)))]) dX8_isDull_50 rfl (nI_addk (by decide)) (by decide) rfl rfl ?_
            refine g_goto X 11 dX8_isDull_53 (by decide) ?_
            exact ih11 (a + 1) (by omega) (fst1_n h1 (by rw [dullP]; simp [c24_10, c24_10n, c32_16, c45_22, c45_22d]))
          · have c45_22d := Int32.not_le.mp c45_22
            refine g_iconst X (0) dX8_isDull_48 (by decide) ?_
            exact g_zret X E dX8_isDull_49 () 0 rfl (by rw [dullF, fst1_at (r := 0) h1 (by rw [dullP]; simp [c24_10, c24_10n, c32_16, c45_22, c45_22d]) (by omega)]; rfl) rfl
  exact loop11_6 n 0 (by omega) rfl

set_option maxHeartbeats 4000000 in
set_option maxRecDepth 100000 in
theorem c_X8_middle (V : gV) (s : Nat) (sw : Nat) (sg : Nat) (day : Int32) (w : Nat → Int32) (h : Nat) (hk : Nat) (hfw : Nat) (hfg : Nat) (hwb : Nat) (hld : Nat) (hte : Nat) (hpu : Nat) (hnu : Nat) (n : Nat) (m : Nat) (hwa : Int32) (hto : Int32) (hn : n ≤ 7) (h1n : 1 ≤ n) : Ki V yX8_middle cX8_middle 6 .int ({ frames := 2, cells := 0, slots := 0, locals := 42 }) [.ref s] [(s, .inr (8, [.ref h, .ref sw, .ref sg, .int day])), (sw, .inl (V.2.2.1, 7, .inl w)), (h, .inr (4, [.ref hk, .ref hfw, .ref hfg, .ref hwb, .ref hld, .ref hte, .ref hpu, .int (nI n), .int hwa, .int (nI m), .ref hnu, .int hto]))] (fun (r : Int32) (u : Unit) => r = midF n w) (fun u => [(s, .inr (8, [.ref h, .ref sw, .ref sg, .int day])), (sw, .inl (V.2.2.1, 7, .inl w)), (h, .inr (4, [.ref hk, .ref hfw, .ref hfg, .ref hwb, .ref hld, .ref hte, .ref hpu, .int (nI n), .int hwa, .int (nI m), .ref hnu, .int hto]))]) := by
  refine Ki.of [some (.ref s), none, none, none, none, none] (by decide) (Nat.le_of_ble_eq_true rfl) rfl rfl ?_
  intro Z X E
  have X : gX V Z RX8 cX8_middle 6 ({ frames := 2, cells := 0, slots := 0, locals := 42 }) := X
  refine g_aload_n X dX8_middle_0 rfl ?_
  refine g_get X uwX8 0 rfl rfl 0 (by decide) kl_X8_22 rfl rfl gwX8 dX8_middle_1 ?_
  refine g_getN X uwX4 2 rfl rfl 7 (by decide) kl_X8_51 rfl rfl gwX4 dX8_middle_4 ?_
  refine g_iconst X (1) dX8_middle_7 (by decide) ?_
  refine g_isub X dX8_middle_8 ?_
  refine g_toe (x' := nI (n - 1)) (nI_sub' rfl rfl (by omega)) ?_
  refine g_iconst X (2) dX8_middle_9 (by decide) ?_
  refine g_idiv X dX8_middle_10 (by decide) ?_
  refine g_toe (x' := nI ((n - 1) / 2)) (nI_div' rfl rfl (by omega) (by omega) (by omega)) ?_
  refine g_istore_n X (L' := [some (.ref s), some (.int (nI ((n - 1) / 2))), none, none, none, none]) dX8_middle_11 (by decide) rfl rfl ?_
  refine g_iconst X (0) dX8_middle_12 (by decide) ?_
  refine g_istore_n X (L' := [some (.ref s), some (.int (nI ((n - 1) / 2))), some (.int 0), none, none, none]) dX8_middle_13 (by decide) rfl rfl ?_
  have loop14 : ∀ (d14 c : Nat), c + d14 = n → ∀  (h1 : fst1 (midP n w) c = none), G V Z 6 (0, 0) [(s, .inr (8, [.ref h, .ref sw, .ref sg, .int day])), (sw, .inl (V.2.2.1, 7, .inl w)), (h, .inr (4, [.ref hk, .ref hfw, .ref hfg, .ref hwb, .ref hld, .ref hte, .ref hpu, .int (nI n), .int hwa, .int (nI m), .ref hnu, .int hto]))] 14 [some (.ref s), some (.int (nI ((n - 1) / 2))), some (.int (nI c)), none, none, none] [] := by
    intro d14
    induction d14 with
    | zero =>
      intro c hc h1
      refine g_iload_n X dX8_middle_14 rfl ?_
      refine g_aload_n X dX8_middle_15 rfl ?_
      refine g_get X uwX8 0 rfl rfl 0 (by decide) kl_X8_22 rfl rfl gwX8 dX8_middle_16 ?_
      refine g_getN X uwX4 2 rfl rfl 7 (by decide) kl_X8_51 rfl rfl gwX4 dX8_middle_19 ?_
      refine g_icmp_ge X 122 dX8_middle_22 (by decide) (fun c22_1 => ?_) (fun c22_1 => absurd (tge (a := c) (b := n) (by omega) (by omega) (by omega)) c22_1)
      refine g_iconst X (0) dX8_middle_122 (by decide) ?_
      exact g_iret X E dX8_middle_123 () 0 (by have e : c = n := (by omega); subst e; rw [midF, h1]; rfl) rfl
    | succ d14 ih14 =>
      intro c hc h1
      refine g_iload_n X dX8_middle_14 rfl ?_
      refine g_aload_n X dX8_middle_15 rfl ?_
      refine g_get X uwX8 0 rfl rfl 0 (by decide) kl_X8_22 rfl rfl gwX8 dX8_middle_16 ?_
      refine g_getN X uwX4 2 rfl rfl 7 (by decide) kl_X8_51 rfl rfl gwX4 dX8_middle_19 ?_
      refine g_icmp_ge X 122 dX8_middle_22 (by decide) (fun c22_2 => absurd c22_2 (fge (a := c) (b := n) (by omega) (by omega) (by omega))) (fun c22_2 => ?_)
      refine g_iconst X (0) dX8_middle_25 (by decide) ?_
      refine g_istore_n X (L' := [some (.ref s), some (.int (nI ((n - 1) / 2))), some (.int (nI c)), some (.int 0), none, none]) dX8_middle_26 (by decide) rfl rfl ?_
      refine g_iconst X (0) dX8_middle_27 (by decide) ?_
      refine g_istore X (L' := [some (.ref s), some (.int (nI ((n - 1) / 2))), some (.int (nI c)), some (.int 0), some (.int 0), none]) dX8_middle_28 (by decide) rfl rfl ?_
      refine g_iconst X (0) dX8_middle_30 (by decide) ?_
      refine g_istore X (L' := [some (.ref s), some (.int (nI ((n - 1) / 2))), some (.int (nI c)), some (.int 0), some (.int 0), some (.int 0)]) dX8_middle_31 (by decide) rfl rfl ?_
      have loop33_3 : ∀ (d33 j : Nat), j + d33 = n → ∀ (lo : Nat) (al : Nat) (h2 : lo = cnt (fun j => decide (w j < w c)) j) (h3 : al = cnt (fun j => decide (w j = w c)) j), G V Z 6 (0, 0) [(s, .inr (8, [.ref h, .ref sw, .ref sg, .int day])), (sw, .inl (V.2.2.1, 7, .inl w)), (h, .inr (4, [.ref hk, .ref hfw, .ref hfg, .ref hwb, .ref hld, .ref hte, .ref hpu, .int (nI n), .int hwa, .int (nI m), .ref hnu, .int hto]))] 33 [some (.ref s), some (.int (nI ((n - 1) / 2))), some (.int (nI c)), some (.int (nI lo)), some (.int (nI al)), some (.int (nI j))] [] := by
        intro d33
        induction d33 with
        | zero =>
          intro j hj lo al h2 h3
          have hlo : lo ≤ j := by rw [h2]; exact cnt_le _ _
          have hal : al ≤ j := by rw [h3]; exact cnt_le _ _
          refine g_iload X dX8_middle_33 rfl ?_
          refine g_aload_n X dX8_middle_35 rfl ?_
          refine g_get X uwX8 0 rfl rfl 0 (by decide) kl_X8_22 rfl rfl gwX8 dX8_middle_36 ?_
          refine g_getN X uwX4 2 rfl rfl 7 (by decide) kl_X8_51 rfl rfl gwX4 dX8_middle_39 ?_
          refine g_icmp_ge X 97 dX8_middle_42 (by decide) (fun c42_4 => ?_) (fun c42_4 => absurd (tge (a := j) (b := n) (by omega) (by omega) (by omega)) c42_4)
          refine g_iload_n X dX8_middle_97 rfl ?_
          refine g_iload_n X dX8_middle_98 rfl ?_
          refine g_icmp_gt X 116 dX8_middle_99 (by decide) (fun c99_5 => ?_) (fun c99_5 => ?_)
          · have c99_5n := igt' (a := lo) (b := (n - 1) / 2) c99_5 (by omega) (by omega)
            refine g_iinc X (v := nI (c + 1)) (L' := [some (.ref s), some (.int (nI ((n - 1) / 2))), some (.int (nI (c + 1))), some (.int (nI lo)), some (.int (nI al)), some (.int (nI j))]) dX8_middle_116 rfl (nI_addk (by decide)) (by decide) rfl rfl ?_
            refine g_goto X 14 dX8_middle_119 (by decide) ?_
            refine g_sub (L' := [some (.ref s), some (.int (nI ((n - 1) / 2))), some (.int (nI (c + 1))), none, none, none]) ⟨rfl, ⟨rfl, ⟨rfl, trivial⟩⟩⟩ ?_
            exact ih14 (c + 1) (by omega) (fst1_n h1 (by rw [midP, if_neg]; have e : j = n := (by omega); subst e; omega))
          · have c99_5n := ingt' (a := lo) (b := (n - 1) / 2) c99_5 (by omega) (by omega)
            refine g_iload_n X dX8_middle_102 rfl ?_
            refine g_iload_n X dX8_middle_103 rfl ?_
            refine g_iload X dX8_middle_104 rfl ?_
            refine g_iadd X dX8_middle_106 ?_
            refine g_toe (x' := nI (lo + al)) (nI_add' rfl rfl) ?_
            refine g_icmp_ge X 116 dX8_middle_107 (by decide) (fun c107_6 => ?_) (fun c107_6 => ?_)
            · have c107_6n := ige' (a := (n - 1) / 2) (b := lo + al) c107_6 (by omega) (by omega)
              refine g_iinc X (v := nI (c + 1)) (L' := [some (.ref s), some (.int (nI ((n - 1) / 2))), some (.int (nI (c + 1))), some (.int (nI lo)), some (.int (nI al)), some (.int (nI j))]) dX8_middle_116 rfl (nI_addk (by decide)) (by decide) rfl rfl ?_
              refine g_goto X 14 dX8_middle_119 (by decide) ?_
              refine g_sub (L' := [some (.ref s), some (.int (nI ((n - 1) / 2))), some (.int (nI (c + 1))), none, none, none]) ⟨rfl, ⟨rfl, ⟨rfl, trivial⟩⟩⟩ ?_
              exact ih14 (c + 1) (by omega) (fst1_n h1 (by rw [midP, if_neg]; have e : j = n := (by omega); subst e; omega))
            · have c107_6n := inge' (a := (n - 1) / 2) (b := lo + al) c107_6 (by omega) (by omega)
              refine g_aload_n X dX8_middle_110 rfl ?_
              refine g_iload_n X dX8_middle_111 rfl ?_
              refine g_callVi X (c_X8_wrongOf V s sw sg day w h c (by omega)) mo_X8_wrongOf kl_X8_85 [0, 1] [1, 2, 0] rfl (by decide +kernel) rfl rfl (fun _ => Nat.le_of_ble_eq_true rfl) 0 8 rfl rfl (As := [.int (nI c)]) (st := []) (cs' := (0, 0)) rfl rfl rfl rfl dX8_middle_112 (fun r_11 u_7 hp_8 ws_10 hw_9 => ?_)
              obtain rfl : r_11 = w c := hp_8
              have hw_9x : ws_10 = [(s, .inr (8, [.ref h, .ref sw, .ref sg, .int day])), (sw, .inl (V.2.2.1, 7, .inl w)), (h, .inr (4, [.ref hk, .ref hfw, .ref hfg, .ref hwb, .ref hld, .ref hte, .ref hpu, .int (nI n), .int hwa, .int (nI m), .ref hnu, .int hto]))] := hw_9.symm
              clear hw_9; subst hw_9x
              exact g_iret X E dX8_middle_115 () (w c) (by have e : j = n := (by omega); subst e; rw [midF, fst1_at (r := w c) h1 (by rw [midP, if_pos]; omega) (by omega)]; rfl) rfl
        | succ d33 ih33 =>
          intro j hj lo al h2 h3
          have hlo : lo ≤ j := by rw [h2]; exact cnt_le _ _
          have hal : al ≤ j := by rw [h3]; exact cnt_le _ _
          refine g_iload X dX8_middle_33 rfl ?_
          refine g_aload_n X dX8_middle_35 rfl ?_
          refine g_get X uwX8 0 rfl rfl 0 (by decide) kl_X8_22 rfl rfl gwX8 dX8_middle_36 ?_
          refine g_getN X uwX4 2 rfl rfl 7 (by decide) kl_X8_51 rfl rfl gwX4 dX8_middle_39 ?_
          refine g_icmp_ge X 97 dX8_middle_42 (by decide) (fun c42_12 => absurd c42_12 (fge (a := j) (b := n) (by omega) (by omega) (by omega))) (fun c42_12 => ?_)
          refine g_iload_n X dX8_middle_45 rfl ?_
          refine g_aload_n X dX8_middle_46 rfl ?_
          refine g_iload X dX8_middle_47 rfl ?_
          refine g_callVi X (c_X8_wrongOf V s sw sg day w h j (by omega)) mo_X8_wrongOf kl_X8_85 [0, 1] [1, 2, 0] rfl (by decide +kernel) rfl rfl (fun _ => Nat.le_of_ble_eq_true rfl) 0 8 rfl rfl (As := [.int (nI j)]) (st := [.int (nI lo)]) (cs' := (0, 0)) rfl rfl rfl rfl dX8_middle_49 (fun r_17 u_13 hp_14 ws_16 hw_15 => ?_)
          obtain rfl : r_17 = w j := hp_14
          have hw_15x : ws_16 = [(s, .inr (8, [.ref h, .ref sw, .ref sg, .int day])), (sw, .inl (V.2.2.1, 7, .inl w)), (h, .inr (4, [.ref hk, .ref hfw, .ref hfg, .ref hwb, .ref hld, .ref hte, .ref hpu, .int (nI n), .int hwa, .int (nI m), .ref hnu, .int hto]))] := hw_15.symm
          clear hw_15; subst hw_15x
          refine g_aload_n X dX8_middle_52 rfl ?_
          refine g_iload_n X dX8_middle_53 rfl ?_
          refine g_callVi X (c_X8_wrongOf V s sw sg day w h c (by omega)) mo_X8_wrongOf kl_X8_85 [0, 1] [1, 2, 0] rfl (by decide +kernel) rfl rfl (fun _ => Nat.le_of_ble_eq_true rfl) 0 8 rfl rfl (As := [.int (nI c)]) (st := [.int (w j), .int (nI lo)]) (cs' := (0, 0)) rfl rfl rfl rfl dX8_middle_54 (fun r_22 u_18 hp_19 ws_21 hw_20 => ?_)
          obtain rfl : r_22 = w c := hp_19
          have hw_20x : ws_21 = [(s, .inr (8, [.ref h, .ref sw, .ref sg, .int day])), (sw, .inl (V.2.2.1, 7, .inl w)), (h, .inr (4, [.ref hk, .ref hfw, .ref hfg, .ref hwb, .ref hld, .ref hte, .ref hpu, .int (nI n), .int hwa, .int (nI m), .ref hnu, .int hto]))] := hw_20.symm
          clear hw_20; subst hw_20x
          refine g_icmp_ge X 64 dX8_middle_57 (by decide) (fun c57_23 => ?_) (fun c57_23 => ?_)
          · have c57_23d := Int32.not_lt.mpr c57_23
            refine g_iconst X (0) dX8_middle_64 (by decide) ?_
            refine g_iadd X dX8_middle_65 ?_
            refine g_toe (x' := nI (lo + 0)) (nI_add' rfl rfl) ?_
            refine g_istore_n X (L' := [some (.ref s), some (.int (nI ((n - 1) / 2))), some (.int (nI c)), some (.int (nI (lo + 0))), some (.int (nI al)), some (.int (nI j))]) dX8_middle_66 (by decide) rfl rfl ?_
            refine g_iload X dX8_middle_67 rfl ?_
            refine g_aload_n X dX8_middle_69 rfl ?_
            refine g_iload X dX8_middle_70 rfl ?_
            refine g_callVi X (c_X8_wrongOf V s sw sg day w h j (by omega)) mo_X8_wrongOf kl_X8_85 [0, 1] [1, 2, 0] rfl (by decide +kernel) rfl rfl (fun _ => Nat.le_of_ble_eq_true rfl) 0 8 rfl rfl (As := [.int (nI j)]) (st := [.int (nI al)]) (cs' := (0, 0)) rfl rfl rfl rfl dX8_middle_72 (fun r_28 u_24 hp_25 ws_27 hw_26 => ?_)
            obtain rfl : r_28 = w j := hp_25
            have hw_26x : ws_27 = [(s, .inr (8, [.ref h, .ref sw, .ref sg, .int day])), (sw, .inl (V.2.2.1, 7, .inl w)), (h, .inr (4, [.ref hk, .ref hfw, .ref hfg, .ref hwb, .ref hld, .ref hte, .ref hpu, .int (nI n), .int hwa, .int (nI m), .ref hnu, .int hto]))] := hw_26.symm
            clear hw_26; subst hw_26x
            refine g_aload_n X dX8_middle_75 rfl ?_
            refine g_iload_n X dX8_middle_76 rfl ?_
            refine g_callVi X (c_X8_wrongOf V s sw sg day w h c (by omega)) mo_X8_wrongOf kl_X8_85 [0, 1] [1, 2, 0] rfl (by decide +kernel) rfl rfl (fun _ => Nat.le_of_ble_eq_true rfl) 0 8 rfl rfl (As := [.int (nI c)]) (st := [.int (w j), .int (nI al)]) (cs' := (0, 0)) rfl rfl rfl rfl dX8_middle_77 (fun r_33 u_29 hp_30 ws_32 hw_31 => ?_)
            obtain rfl : r_33 = w c := hp_30
            have hw_31x : ws_32 = [(s, .inr (8, [.ref h, .ref sw, .ref sg, .int day])), (sw, .inl (V.2.2.1, 7, .inl w)), (h, .inr (4, [.ref hk, .ref hfw, .ref hfg, .ref hwb, .ref hld, .ref hte, .ref hpu, .int (nI n), .int hwa, .int (nI m), .ref hnu, .int hto]))] := hw_31.symm
            clear hw_31; subst hw_31x
            refine g_icmp_ne X 87 dX8_middle_80 (by decide) (fun c80_34 => ?_) (fun c80_34 => ?_)
            · refine g_iconst X (0) dX8_middle_87 (by decide) ?_
              refine g_iadd X dX8_middle_88 ?_
              refine g_toe (x' := nI (al + 0)) (nI_add' rfl rfl) ?_
              refine g_istore X (L' := [some (.ref s), some (.int (nI ((n - 1) / 2))), some (.int (nI c)), some (.int (nI (lo + 0))), some (.int (nI (al + 0))), some (.int (nI j))]) dX8_middle_89 (by decide) rfl rfl ?_
              refine g_iinc X (v := nI (j + 1)) (L' := [some (.ref s), some (.int (nI ((n - 1) / 2))), some (.int (nI c)), some (.int (nI (lo + 0))), some (.int (nI (al + 0))), some (.int (nI (j + 1)))]) dX8_middle_91 rfl (nI_addk (by decide)) (by decide) rfl rfl ?_
              refine g_goto X 33 dX8_middle_94 (by decide) ?_
              exact ih33 (j + 1) (by omega) (lo + 0) (al + 0) (by rw [cnt_s, ← h2]; simp [c57_23, c57_23d]) (by rw [cnt_s, ← h3]; simp [c80_34])
            · refine g_iconst X (1) dX8_middle_83 (by decide) ?_
              refine g_goto X 88 dX8_middle_84 (by decide) ?_
              refine g_iadd X dX8_middle_88 ?_
              refine g_toe (x' := nI (al + 1)) (nI_add' rfl rfl) ?_
              refine g_istore X (L' := [some (.ref s), some (.int (nI ((n - 1) / 2))), some (.int (nI c)), some (.int (nI (lo + 0))), some (.int (nI (al + 1))), some (.int (nI j))]) dX8_middle_89 (by decide) rfl rfl ?_
              refine g_iinc X (v := nI (j + 1)) (L' := [some (.ref s), some (.int (nI ((n - 1) / 2))), some (.int (nI c)), some (.int (nI (lo + 0))), some (.int (nI (al + 1))), some (.int (nI (j + 1)))]) dX8_middle_91 rfl (nI_addk (by decide)) (by decide) rfl rfl ?_
              refine g_goto X 33 dX8_middle_94 (by decide) ?_
              exact ih33 (j + 1) (by omega) (lo + 0) (al + 1) (by rw [cnt_s, ← h2]; simp [c57_23, c57_23d]) (by rw [cnt_s, ← h3]; simp [c80_34])
          · have c57_23d := Int32.not_le.mp c57_23
            refine g_iconst X (1) dX8_middle_60 (by decide) ?_
            refine g_goto X 65 dX8_middle_61 (by decide) ?_
            refine g_iadd X dX8_middle_65 ?_
            refine g_toe (x' := nI (lo + 1)) (nI_add' rfl rfl) ?_
            refine g_istore_n X (L' := [some (.ref s), some (.int (nI ((n - 1) / 2))), some (.int (nI c)), some (.int (nI (lo + 1))), some (.int (nI al)), some (.int (nI j))]) dX8_middle_66 (by decide) rfl rfl ?_
            refine g_iload X dX8_middle_67 rfl ?_
            refine g_aload_n X dX8_middle_69 rfl ?_
            refine g_iload X dX8_middle_70 rfl ?_
            refine g_callVi X (c_X8_wrongOf V s sw sg day w h j (by omega)) mo_X8_wrongOf kl_X8_85 [0, 1] [1, 2, 0] rfl (by decide +kernel) rfl rfl (fun _ => Nat.le_of_ble_eq_true rfl) 0 8 rfl rfl (As := [.int (nI j)]) (st := [.int (nI al)]) (cs' := (0, 0)) rfl rfl rfl rfl dX8_middle_72 (fun r_39 u_35 hp_36 ws_38 hw_37 => ?_)
            obtain rfl : r_39 = w j := hp_36
            have hw_37x : ws_38 = [(s, .inr (8, [.ref h, .ref sw, .ref sg, .int day])), (sw, .inl (V.2.2.1, 7, .inl w)), (h, .inr (4, [.ref hk, .ref hfw, .ref hfg, .ref hwb, .ref hld, .ref hte, .ref hpu, .int (nI n), .int hwa, .int (nI m), .ref hnu, .int hto]))] := hw_37.symm
            clear hw_37; subst hw_37x
            refine g_aload_n X dX8_middle_75 rfl ?_
            refine g_iload_n X dX8_middle_76 rfl ?_
            refine g_callVi X (c_X8_wrongOf V s sw sg day w h c (by omega)) mo_X8_wrongOf kl_X8_85 [0, 1] [1, 2, 0] rfl (by decide +kernel) rfl rfl (fun _ => Nat.le_of_ble_eq_true rfl) 0 8 rfl rfl (As := [.int (nI c)]) (st := [.int (w j), .int (nI al)]) (cs' := (0, 0)) rfl rfl rfl rfl dX8_middle_77 (fun r_44 u_40 hp_41 ws_43 hw_42 => ?_)
            obtain rfl : r_44 = w c := hp_41
            have hw_42x : ws_43 = [(s, .inr (8, [.ref h, .ref sw, .ref sg, .int day])), (sw, .inl (V.2.2.1, 7, .inl w)), (h, .inr (4, [.ref hk, .ref hfw, .ref hfg, .ref hwb, .ref hld, .ref hte, .ref hpu, .int (nI n), .int hwa, .int (nI m), .ref hnu, .int hto]))] := hw_42.symm
            clear hw_42; subst hw_42x
            refine g_icmp_ne X 87 dX8_middle_80 (by decide) (fun c80_45 => ?_) (fun c80_45 => ?_)
            · refine g_iconst X (0) dX8_middle_87 (by decide) ?_
              refine g_iadd X dX8_middle_88 ?_
              refine g_toe (x' := nI (al + 0)) (nI_add' rfl rfl) ?_
              refine g_istore X (L' := [some (.ref s), some (.int (nI ((n - 1) / 2))), some (.int (nI c)), some (.int (nI (lo + 1))), some (.int (nI (al + 0))), some (.int (nI j))]) dX8_middle_89 (by decide) rfl rfl ?_
              refine g_iinc X (v := nI (j + 1)) (L' := [some (.ref s), some (.int (nI ((n - 1) / 2))), some (.int (nI c)), some (.int (nI (lo + 1))), some (.int (nI (al + 0))), some (.int (nI (j + 1)))]) dX8_middle_91 rfl (nI_addk (by decide)) (by decide) rfl rfl ?_
              refine g_goto X 33 dX8_middle_94 (by decide) ?_
              exact ih33 (j + 1) (by omega) (lo + 1) (al + 0) (by rw [cnt_s, ← h2]; simp [c57_23, c57_23d]) (by rw [cnt_s, ← h3]; simp [c80_45])
            · refine g_iconst X (1) dX8_middle_83 (by decide) ?_
              refine g_goto X 88 dX8_middle_84 (by decide) ?_
              refine g_iadd X dX8_middle_88 ?_
              refine g_toe (x' := nI (al + 1)) (nI_add' rfl rfl) ?_
              refine g_istore X (L' := [some (.ref s), some (.int (nI ((n - 1) / 2))), some (.int (nI c)), some (.int (nI (lo + 1))), some (.int (nI (al + 1))), some (.int (nI j))]) dX8_middle_89 (by decide) rfl rfl ?_
              refine g_iinc X (v := nI (j + 1)) (L' := [some (.ref s), some (.int (nI ((n - 1) / 2))), some (.int (nI c)), some (.int (nI (lo + 1))), some (.int (nI (al + 1))), some (.int (nI (j + 1)))]) dX8_middle_91 rfl (nI_addk (by decide)) (by decide) rfl rfl ?_
              refine g_goto X 33 dX8_middle_94 (by decide) ?_
              exact ih33 (j + 1) (by omega) (lo + 1) (al + 1) (by rw [cnt_s, ← h2]; simp [c57_23, c57_23d]) (by rw [cnt_s, ← h3]; simp [c80_45])
      exact loop33_3 n 0 (by omega) 0 0 rfl rfl
  exact loop14 n 0 (by omega) rfl
