set_option maxHeartbeats 4000000 in
set_option maxRecDepth 100000 in
theorem c_bitCount (V : gV) (x : Int32)  : Ki V yJ6_bitCount_0f7a4 cJ6_bitCount_0f7a4 1 .int ({ frames := 0, cells := 0, slots := 0, locals := 0 }) [.int x] [] (fun (r : Int32) (u : Unit) => r = bcF x) (fun u => []) := by
  refine Ki.of [some (.int x)] (by decide) (Nat.le_of_ble_eq_true rfl) rfl rfl ?_
  intro Z X E
  have X : gX V Z RJ6 cJ6_bitCount_0f7a4 1 ({ frames := 0, cells := 0, slots := 0, locals := 0 }) := X
  refine g_iload_n X dJ6_bitCount_0f7a4_0 rfl ?_
  refine g_iload_n X dJ6_bitCount_0f7a4_1 rfl ?_
  refine g_iconst X (1) dJ6_bitCount_0f7a4_2 (by decide) ?_
  refine g_iushr X dJ6_bitCount_0f7a4_3 ?_
  refine g_ldcw X kl_J6_265 dJ6_bitCount_0f7a4_4 ?_
  refine g_iand X dJ6_bitCount_0f7a4_7 ?_
  refine g_isub X dJ6_bitCount_0f7a4_8 ?_
  refine g_toe (x' := bc1 x) rfl ?_
  refine g_istore_n X (L' := [some (.int (bc1 x))]) dJ6_bitCount_0f7a4_9 (by decide) rfl rfl ?_
  refine g_iload_n X dJ6_bitCount_0f7a4_10 rfl ?_
  refine g_ldcw X kl_J6_266 dJ6_bitCount_0f7a4_11 ?_
  refine g_iand X dJ6_bitCount_0f7a4_14 ?_
  refine g_iload_n X dJ6_bitCount_0f7a4_15 rfl ?_
  refine g_iconst X (2) dJ6_bitCount_0f7a4_16 (by decide) ?_
  refine g_iushr X dJ6_bitCount_0f7a4_17 ?_
  refine g_ldcw X kl_J6_266 dJ6_bitCount_0f7a4_18 ?_
  refine g_iand X dJ6_bitCount_0f7a4_21 ?_
  refine g_iadd X dJ6_bitCount_0f7a4_22 ?_
  refine g_toe (x' := bc2 (bc1 x)) rfl ?_
  refine g_istore_n X (L' := [some (.int (bc2 (bc1 x)))]) dJ6_bitCount_0f7a4_23 (by decide) rfl rfl ?_
  refine g_iload_n X dJ6_bitCount_0f7a4_24 rfl ?_
  refine g_iload_n X dJ6_bitCount_0f7a4_25 rfl ?_
  refine g_iconst X (4) dJ6_bitCount_0f7a4_26 (by decide) ?_
  refine g_iushr X dJ6_bitCount_0f7a4_27 ?_
  refine g_iadd X dJ6_bitCount_0f7a4_28 ?_
  refine g_ldcw X kl_J6_267 dJ6_bitCount_0f7a4_29 ?_
  refine g_iand X dJ6_bitCount_0f7a4_32 ?_
  refine g_toe (x' := bc3 (bc2 (bc1 x))) rfl ?_
  refine g_istore_n X (L' := [some (.int (bc3 (bc2 (bc1 x))))]) dJ6_bitCount_0f7a4_33 (by decide) rfl rfl ?_
  refine g_iload_n X dJ6_bitCount_0f7a4_34 rfl ?_
  refine g_iload_n X dJ6_bitCount_0f7a4_35 rfl ?_
  refine g_bipush X (8) dJ6_bitCount_0f7a4_36 (by decide) ?_
  refine g_iushr X dJ6_bitCount_0f7a4_38 ?_
  refine g_iadd X dJ6_bitCount_0f7a4_39 ?_
  refine g_toe (x' := bc4 (bc3 (bc2 (bc1 x)))) rfl ?_
  refine g_istore_n X (L' := [some (.int (bc4 (bc3 (bc2 (bc1 x)))))]) dJ6_bitCount_0f7a4_40 (by decide) rfl rfl ?_
  refine g_iload_n X dJ6_bitCount_0f7a4_41 rfl ?_
  refine g_iload_n X dJ6_bitCount_0f7a4_42 rfl ?_
  refine g_bipush X (16) dJ6_bitCount_0f7a4_43 (by decide) ?_
  refine g_iushr X dJ6_bitCount_0f7a4_45 ?_
  refine g_iadd X dJ6_bitCount_0f7a4_46 ?_
  refine g_toe (x' := bc5 (bc4 (bc3 (bc2 (bc1 x))))) rfl ?_
  refine g_istore_n X (L' := [some (.int (bc5 (bc4 (bc3 (bc2 (bc1 x))))))]) dJ6_bitCount_0f7a4_47 (by decide) rfl rfl ?_
  refine g_iload_n X dJ6_bitCount_0f7a4_48 rfl ?_
  refine g_bipush X (63) dJ6_bitCount_0f7a4_49 (by decide) ?_
  refine g_iand X dJ6_bitCount_0f7a4_51 ?_
  exact g_iret X E dJ6_bitCount_0f7a4_52 () ((bc5 (bc4 (bc3 (bc2 (bc1 x))))) &&& 63) (by first | rfl | (simp []; done)) rfl

set_option maxHeartbeats 4000000 in
set_option maxRecDepth 100000 in
theorem c_X4_wallsOf (V : gV) (h : Nat) (hk : Nat) (hfw : Nat) (hfg : Nat) (hwb : Nat) (hld : Nat) (hte : Nat) (hpu : Nat) (hnu : Nat) (n : Nat) (m : Nat) (hwa : Int32) (hto : Int32) (wb : Nat → Int32) (c : Nat) (hc : c < 7) : Ki V yX4_wallsOf cX4_wallsOf 2 .int ({ frames := 1, cells := 0, slots := 0, locals := 21 }) [.ref h, .int (nI c)] [(h, .inr (4, [.ref hk, .ref hfw, .ref hfg, .ref hwb, .ref hld, .ref hte, .ref hpu, .int (nI n), .int hwa, .int (nI m), .ref hnu, .int hto])), (hwb, .inl (V.2.2.1, 7, .inl wb))] (fun (r : Int32) (u : Unit) => r = bcF (wb c)) (fun u => [(h, .inr (4, [.ref hk, .ref hfw, .ref hfg, .ref hwb, .ref hld, .ref hte, .ref hpu, .int (nI n), .int hwa, .int (nI m), .ref hnu, .int hto])), (hwb, .inl (V.2.2.1, 7, .inl wb))]) := by
  refine Ki.of [some (.ref h), some (.int (nI c))] (by decide) (Nat.le_of_ble_eq_true rfl) rfl rfl ?_
  intro Z X E
  have X : gX V Z RX4 cX4_wallsOf 2 ({ frames := 1, cells := 0, slots := 0, locals := 21 }) := X
  refine g_aload_n X dX4_wallsOf_0 rfl ?_
  refine g_get X uwX4 0 rfl rfl 3 (by decide) kl_X4_21 rfl rfl gwX4 dX4_wallsOf_1 ?_
  refine g_iload_n X dX4_wallsOf_4 rfl ?_
  refine g_callNi X (c_X10_at V hwb 7 wb c (by omega) (by decide)) mo_X10_at kl_X4_70 [1] [0, 1] rfl (by decide +kernel) rfl rfl (fun _ => Nat.le_of_ble_eq_true rfl) (As := [.ref hwb, .int (nI c)]) (st := []) (cs' := (0, 0)) rfl rfl rfl dX4_wallsOf_5 (fun r_5 u_1 hp_2 ws_4 hw_3 => ?_)
  obtain rfl : r_5 = wb c := hp_2
  have hw_3x : ws_4 = [(h, .inr (4, [.ref hk, .ref hfw, .ref hfg, .ref hwb, .ref hld, .ref hte, .ref hpu, .int (nI n), .int hwa, .int (nI m), .ref hnu, .int hto])), (hwb, .inl (V.2.2.1, 7, .inl wb))] := hw_3.symm
  clear hw_3; subst hw_3x
  refine g_callSi X (c_bitCount V (wb c)) mo_J6_bitCount_0f7a4 kl_X4_94 [] [0, 0] rfl (by decide +kernel) rfl rfl (fun _ => Nat.le_of_ble_eq_true rfl) (As := [.int (wb c)]) (st := []) (cs' := (0, 0)) rfl rfl rfl dX4_wallsOf_8 (fun r_10 u_6 hp_7 ws_9 hw_8 => ?_)
  obtain rfl : r_10 = bcF (wb c) := hp_7
  have hw_8x : ws_9 = [(h, .inr (4, [.ref hk, .ref hfw, .ref hfg, .ref hwb, .ref hld, .ref hte, .ref hpu, .int (nI n), .int hwa, .int (nI m), .ref hnu, .int hto])), (hwb, .inl (V.2.2.1, 7, .inl wb))] := hw_8.symm
  clear hw_8; subst hw_8x
  exact g_iret X E dX4_wallsOf_11 () (bcF (wb c)) (by first | rfl | (simp []; done)) rfl

set_option maxHeartbeats 4000000 in
set_option maxRecDepth 100000 in
theorem m_clock_3 (V : gV) (x0 : Nat) (t : Nat) (d : Nat) (h : Nat) (s : Nat) (o : Nat) (p : Nat) (p2 : Nat) (ru : Nat) (cu : Nat) (br : Nat) (bt : Nat) (hk : Nat) (hfw : Nat) (hfg : Nat) (hwb : Nat) (hld : Nat) (hte : Nat) (hpu : Nat) (hnu : Nat) (n : Nat) (m : Nat) (hwa : Int32) (hto : Int32) (wb : Nat → Int32) (c : Nat) (hn : n ≤ 7) (hc : c < n) : Ki V yX10_clock cX10_clock 3 .int ({ frames := 2, cells := 0, slots := 0, locals := 42 }) [.ref x0, .int (nI c), .int 3] [(x0, .inr (10, [.ref t, .ref d, .ref h, .ref s, .ref o, .ref p, .ref p2, .ref ru, .ref cu, .ref br, .ref bt])), (h, .inr (4, [.ref hk, .ref hfw, .ref hfg, .ref hwb, .ref hld, .ref hte, .ref hpu, .int (nI n), .int hwa, .int (nI m), .ref hnu, .int hto])), (hwb, .inl (V.2.2.1, 7, .inl wb))] (fun (r : Int32) (u : Unit) => r = bcF (wb c)) (fun u => [(x0, .inr (10, [.ref t, .ref d, .ref h, .ref s, .ref o, .ref p, .ref p2, .ref ru, .ref cu, .ref br, .ref bt])), (h, .inr (4, [.ref hk, .ref hfw, .ref hfg, .ref hwb, .ref hld, .ref hte, .ref hpu, .int (nI n), .int hwa, .int (nI m), .ref hnu, .int hto])), (hwb, .inl (V.2.2.1, 7, .inl wb))]) := by
  refine Ki.of [some (.ref x0), some (.int (nI c)), some (.int 3)] (by decide) (Nat.le_of_ble_eq_true rfl) rfl rfl ?_
  intro Z X E
  have X : gX V Z RX10 cX10_clock 3 ({ frames := 2, cells := 0, slots := 0, locals := 42 }) := X
  refine g_aload_n X dX10_clock_0 rfl ?_
  refine g_get X uwX10 0 rfl rfl 2 (by decide) kl_X10_23 rfl rfl gwX10 dX10_clock_1 ?_
  refine g_iload_n X dX10_clock_4 rfl ?_
  refine g_callVi X (c_X4_hasClockG V h hk hfw hfg hwb hld hte hpu hnu n m hwa hto (nI c) (by omega)) mo_X4_hasClock kl_X10_113 [1] [0, 1, 0] rfl (by decide +kernel) rfl rfl (fun _ => Nat.le_of_ble_eq_true rfl) 1 4 rfl rfl (As := [.int (nI c)]) (st := []) (cs' := (0, 0)) rfl rfl rfl rfl dX10_clock_5 (fun r_5 u_1 hp_2 ws_4 hw_3 => ?_)
  obtain rfl : r_5 = (if okC n (nI c) then 1 else 0) := hp_2
  have hw_3x : ws_4 = [(x0, .inr (10, [.ref t, .ref d, .ref h, .ref s, .ref o, .ref p, .ref p2, .ref ru, .ref cu, .ref br, .ref bt])), (h, .inr (4, [.ref hk, .ref hfw, .ref hfg, .ref hwb, .ref hld, .ref hte, .ref hpu, .int (nI n), .int hwa, .int (nI m), .ref hnu, .int hto])), (hwb, .inl (V.2.2.1, 7, .inl wb))] := hw_3.symm
  clear hw_3; subst hw_3x
  refine g_if_ne X 13 dX10_clock_8 (by decide) (fun c8_6 => ?_) (fun c8_6 => absurd c8_6 (by rw [if_pos (okC_nI hc (by omega))]; decide))
  refine g_iload_n X dX10_clock_13 rfl ?_
  refine g_tableIn X 78 dX10_clock_14 (off := 64) (by decide) (by decide) (by decide) (by decide) ?_
  refine g_aload_n X dX10_clock_78 rfl ?_
  refine g_get X uwX10 0 rfl rfl 2 (by decide) kl_X10_23 rfl rfl gwX10 dX10_clock_79 ?_
  refine g_iload_n X dX10_clock_82 rfl ?_
  refine g_callVi X (c_X4_wallsOf V h hk hfw hfg hwb hld hte hpu hnu n m hwa hto wb c (by omega)) mo_X4_wallsOf kl_X10_127 [1, 2] [0, 1, 2] rfl (by decide +kernel) rfl rfl (fun _ => Nat.le_of_ble_eq_true rfl) 1 4 rfl rfl (As := [.int (nI c)]) (st := []) (cs' := (0, 0)) rfl rfl rfl rfl dX10_clock_83 (fun r_11 u_7 hp_8 ws_10 hw_9 => ?_)
  obtain rfl : r_11 = bcF (wb c) := hp_8
  have hw_9x : ws_10 = [(x0, .inr (10, [.ref t, .ref d, .ref h, .ref s, .ref o, .ref p, .ref p2, .ref ru, .ref cu, .ref br, .ref bt])), (h, .inr (4, [.ref hk, .ref hfw, .ref hfg, .ref hwb, .ref hld, .ref hte, .ref hpu, .int (nI n), .int hwa, .int (nI m), .ref hnu, .int hto])), (hwb, .inl (V.2.2.1, 7, .inl wb))] := hw_9.symm
  clear hw_9; subst hw_9x
  exact g_iret X E dX10_clock_86 () (bcF (wb c)) (by first | rfl | (simp [c8_6]; done)) rfl

set_option maxHeartbeats 4000000 in
set_option maxRecDepth 100000 in
theorem m_behind_bad (V : gV) (x0 : Nat) (t : Nat) (d : Nat) (h : Nat) (s : Nat) (o : Nat) (p : Nat) (p2 : Nat) (ru : Nat) (cu : Nat) (br : Nat) (bt : Nat) (hk : Nat) (hfw : Nat) (hfg : Nat) (hwb : Nat) (hld : Nat) (hte : Nat) (hpu : Nat) (hnu : Nat) (n : Nat) (m : Nat) (hwa : Int32) (hto : Int32) (v : Int32) (c : Int32) (hn : n ≤ 7) (hbad : ¬ (¬ v < 0 ∧ v ≤ 60 ∧ (c = -1 ∨ okC n c))) : Ki V yX10_behind cX10_behind 3 .int ({ frames := 1, cells := 0, slots := 0, locals := 21 }) [.ref x0, .int v, .int c] [(x0, .inr (10, [.ref t, .ref d, .ref h, .ref s, .ref o, .ref p, .ref p2, .ref ru, .ref cu, .ref br, .ref bt])), (h, .inr (4, [.ref hk, .ref hfw, .ref hfg, .ref hwb, .ref hld, .ref hte, .ref hpu, .int (nI n), .int hwa, .int (nI m), .ref hnu, .int hto]))] (fun (r : Int32) (u : Unit) => r = -1) (fun u => [(x0, .inr (10, [.ref t, .ref d, .ref h, .ref s, .ref o, .ref p, .ref p2, .ref ru, .ref cu, .ref br, .ref bt])), (h, .inr (4, [.ref hk, .ref hfw, .ref hfg, .ref hwb, .ref hld, .ref hte, .ref hpu, .int (nI n), .int hwa, .int (nI m), .ref hnu, .int hto]))]) := by
  refine Ki.of [some (.ref x0), some (.int v), some (.int c)] (by decide) (Nat.le_of_ble_eq_true rfl) rfl rfl ?_
  intro Z X E
  have X : gX V Z RX10 cX10_behind 3 ({ frames := 1, cells := 0, slots := 0, locals := 21 }) := X
  refine g_iload_n X dX10_behind_0 rfl ?_
  refine g_if_lt X 26 dX10_behind_1 (by decide) (fun c1_1 => ?_) (fun c1_1 => ?_)
  · have c1_1d := Int32.not_le.mpr c1_1
    refine g_iconst X (-1) dX10_behind_26 (by decide) ?_
    exact g_iret X E dX10_behind_27 () (-1) (by first | rfl | (simp [c1_1, c1_1d]; done)) rfl
  · have c1_1d := Int32.not_lt.mp c1_1
    refine g_iload_n X dX10_behind_4 rfl ?_
    refine g_bipush X (60) dX10_behind_5 (by decide) ?_
    refine g_icmp_gt X 26 dX10_behind_7 (by decide) (fun c7_2 => ?_) (fun c7_2 => ?_)
    · have c7_2d := Int32.not_le.mpr c7_2
      refine g_iconst X (-1) dX10_behind_26 (by decide) ?_
      exact g_iret X E dX10_behind_27 () (-1) (by first | rfl | (simp [c1_1, c1_1d, c7_2, c7_2d]; done)) rfl
    · have c7_2d := Int32.not_lt.mp c7_2
      refine g_iload_n X dX10_behind_10 rfl ?_
      refine g_iconst X (-1) dX10_behind_11 (by decide) ?_
      refine g_icmp_eq X 28 dX10_behind_12 (by decide) (fun c12_3 => ?_) (fun c12_3 => ?_)
      · exact absurd ⟨c1_1, c7_2d, Or.inl c12_3⟩ hbad
      · refine g_aload_n X dX10_behind_15 rfl ?_
        refine g_get X uwX10 0 rfl rfl 2 (by decide) kl_X10_23 rfl rfl gwX10 dX10_behind_16 ?_
        refine g_iload_n X dX10_behind_19 rfl ?_
        refine g_callVi X (c_X4_hasClockG V h hk hfw hfg hwb hld hte hpu hnu n m hwa hto c (by omega)) mo_X4_hasClock kl_X10_113 [1] [0, 1] rfl (by decide +kernel) rfl rfl (fun _ => Nat.le_of_ble_eq_true rfl) 1 4 rfl rfl (As := [.int c]) (st := []) (cs' := (0, 0)) rfl rfl rfl rfl dX10_behind_20 (fun r_8 u_4 hp_5 ws_7 hw_6 => ?_)
        obtain rfl : r_8 = (if okC n c then 1 else 0) := hp_5
        have hw_6x : ws_7 = [(x0, .inr (10, [.ref t, .ref d, .ref h, .ref s, .ref o, .ref p, .ref p2, .ref ru, .ref cu, .ref br, .ref bt])), (h, .inr (4, [.ref hk, .ref hfw, .ref hfg, .ref hwb, .ref hld, .ref hte, .ref hpu, .int (nI n), .int hwa, .int (nI m), .ref hnu, .int hto]))] := hw_6.symm
        clear hw_6; subst hw_6x
        refine g_if_ne X 28 dX10_behind_23 (by decide) (fun c23_9 => ?_) (fun c23_9 => ?_)
        · exact absurd ⟨c1_1, c7_2d, Or.inr (by have z := c23_9; by_cases q9 : okC n c; exact q9; rw [if_neg q9] at z; exact absurd rfl z)⟩ hbad
        · refine g_iconst X (-1) dX10_behind_26 (by decide) ?_
          exact g_iret X E dX10_behind_27 () (-1) (by first | rfl | (simp [c1_1, c1_1d, c7_2, c7_2d, c12_3, c23_9]; done)) rfl

set_option maxHeartbeats 4000000 in
set_option maxRecDepth 100000 in
theorem m_behind_noon (V : gV) (x0 : Nat) (t : Nat) (d : Nat) (h : Nat) (s : Nat) (o : Nat) (p : Nat) (p2 : Nat) (ru : Nat) (cu : Nat) (br : Nat) (bt : Nat) (sw : Nat) (sg : Nat) (day : Int32) (w : Nat → Int32) (g : Nat → Int32) (ow_ : Nat) (og_ : Nat) (oday : Int32) (ow : Nat → Int32) (og : Nat → Int32) (hk : Nat) (hfw : Nat) (hfg : Nat) (hwb : Nat) (hld : Nat) (hte : Nat) (hpu : Nat) (hnu : Nat) (n : Nat) (m : Nat) (hwa : Int32) (hto : Int32) (k : Nat → Int32) (wb : Nat → Int32) (ld : Nat → Nat) (te : Nat → Nat) (pu : Nat → Nat) (v : Nat) (hn : n ≤ 7) (h1n : 1 ≤ n) (hm : m ≤ 9) (ht : ∀ i, i < m → te i < n ∧ pu i < n) (hv : v ≤ 60) : Ki V yX10_behind cX10_behind 3 .int ({ frames := 6, cells := 0, slots := 0, locals := 135 }) [.ref x0, .int (nI v), .int (-1)] [(x0, .inr (10, [.ref t, .ref d, .ref h, .ref s, .ref o, .ref p, .ref p2, .ref ru, .ref cu, .ref br, .ref bt])), (s, .inr (8, [.ref h, .ref sw, .ref sg, .int day])), (sw, .inl (V.2.2.1, 7, .inl w)), (sg, .inl (V.2.2.1, 7, .inl g)), (o, .inr (8, [.ref h, .ref ow_, .ref og_, .int oday])), (ow_, .inl (V.2.2.1, 7, .inl ow)), (og_, .inl (V.2.2.1, 7, .inl og)), (h, .inr (4, [.ref hk, .ref hfw, .ref hfg, .ref hwb, .ref hld, .ref hte, .ref hpu, .int (nI n), .int hwa, .int (nI m), .ref hnu, .int hto])), (hk, .inl (V.2.2.1, 7, .inl k)), (hwb, .inl (V.2.2.1, 7, .inl wb)), (hld, .inl (V.2.2.1, 9, .inl (nIf ld))), (hte, .inl (V.2.2.1, 9, .inl (nIf te))), (hpu, .inl (V.2.2.1, 9, .inl (nIf pu)))] (fun (r : Int32) (u : (Nat → Int32) × (Nat → Int32) × Int32) => r = midF n (daysF k wb ld te pu n m g day v w) + 600) (fun u => [(x0, .inr (10, [.ref t, .ref d, .ref h, .ref s, .ref o, .ref p, .ref p2, .ref ru, .ref cu, .ref br, .ref bt])), (s, .inr (8, [.ref h, .ref sw, .ref sg, .int day])), (sw, .inl (V.2.2.1, 7, .inl w)), (sg, .inl (V.2.2.1, 7, .inl g)), (o, .inr (8, [.ref h, .ref ow_, .ref og_, .int u.2.2])), (ow_, .inl (V.2.2.1, 7, .inl u.1)), (og_, .inl (V.2.2.1, 7, .inl u.2.1)), (h, .inr (4, [.ref hk, .ref hfw, .ref hfg, .ref hwb, .ref hld, .ref hte, .ref hpu, .int (nI n), .int hwa, .int (nI m), .ref hnu, .int hto])), (hk, .inl (V.2.2.1, 7, .inl k)), (hwb, .inl (V.2.2.1, 7, .inl wb)), (hld, .inl (V.2.2.1, 9, .inl (nIf ld))), (hte, .inl (V.2.2.1, 9, .inl (nIf te))), (hpu, .inl (V.2.2.1, 9, .inl (nIf pu)))]) := by
  refine Ki.of [some (.ref x0), some (.int (nI v)), some (.int (-1))] (by decide) (Nat.le_of_ble_eq_true rfl) rfl rfl ?_
  intro Z X E
  have X : gX V Z RX10 cX10_behind 3 ({ frames := 6, cells := 0, slots := 0, locals := 135 }) := X
  refine g_iload_n X dX10_behind_0 rfl ?_
  refine g_if_lt X 26 dX10_behind_1 (by decide) (fun c1_1 => absurd c1_1 (flt (a := v) (b := 0) (by omega) (by omega) (by omega))) (fun c1_1 => ?_)
  refine g_iload_n X dX10_behind_4 rfl ?_
  refine g_bipush X (60) dX10_behind_5 (by decide) ?_
  refine g_icmp_gt X 26 dX10_behind_7 (by decide) (fun c7_2 => absurd c7_2 (fgt (a := v) (b := 60) (by omega) (by omega) (by omega))) (fun c7_2 => ?_)
  refine g_iload_n X dX10_behind_10 rfl ?_
  refine g_iconst X (-1) dX10_behind_11 (by decide) ?_
  refine g_icmp_eq X 28 dX10_behind_12 (by decide) (fun c12_3 => ?_) (fun c12_3 => absurd rfl c12_3)
  refine g_aload_n X dX10_behind_28 rfl ?_
  refine g_get X uwX10 0 rfl rfl 4 (by decide) kl_X10_35 rfl rfl gwX10 dX10_behind_29 ?_
  refine g_aload_n X dX10_behind_32 rfl ?_
  refine g_get X uwX10 0 rfl rfl 3 (by decide) kl_X10_31 rfl rfl gwX10 dX10_behind_33 ?_
  refine g_callVv X (c_X8_takeFrom V o ow_ og_ oday ow og h s sw sg h day w g) mo_X8_takeFrom kl_X10_166 [4, 5, 6, 1, 2, 3] [0, 4, 5, 6, 1, 2, 3, 0, 0, 0, 0, 0, 0] rfl (by decide +kernel) rfl rfl (fun _ => Nat.le_of_ble_eq_true rfl) 4 8 rfl rfl (As := [.ref s]) (st := []) (cs' := (0, 0)) rfl rfl rfl rfl dX10_behind_36 (fun u_4 hp_5 ws_7 hw_6 => ?_)
  have hw_6x : ws_7 = [(x0, .inr (10, [.ref t, .ref d, .ref h, .ref s, .ref o, .ref p, .ref p2, .ref ru, .ref cu, .ref br, .ref bt])), (s, .inr (8, [.ref h, .ref sw, .ref sg, .int day])), (sw, .inl (V.2.2.1, 7, .inl w)), (sg, .inl (V.2.2.1, 7, .inl g)), (o, .inr (8, [.ref h, .ref ow_, .ref og_, .int day])), (ow_, .inl (V.2.2.1, 7, .inl w)), (og_, .inl (V.2.2.1, 7, .inl g)), (h, .inr (4, [.ref hk, .ref hfw, .ref hfg, .ref hwb, .ref hld, .ref hte, .ref hpu, .int (nI n), .int hwa, .int (nI m), .ref hnu, .int hto])), (hk, .inl (V.2.2.1, 7, .inl k)), (hwb, .inl (V.2.2.1, 7, .inl wb)), (hld, .inl (V.2.2.1, 9, .inl (nIf ld))), (hte, .inl (V.2.2.1, 9, .inl (nIf te))), (hpu, .inl (V.2.2.1, 9, .inl (nIf pu)))] := hw_6.symm
  clear hw_6; subst hw_6x
  refine g_aload_n X dX10_behind_39 rfl ?_
  refine g_get X uwX10 0 rfl rfl 4 (by decide) kl_X10_35 rfl rfl gwX10 dX10_behind_40 ?_
  refine g_iload_n X dX10_behind_43 rfl ?_
  refine g_callVv X (c_X8_passDays V o ow_ og_ day w g h hk hfw hfg hwb hld hte hpu hnu n m hwa hto k wb ld te pu v (by omega) (by omega) (by omega) ht) mo_X8_passDays kl_X10_144 [4, 5, 6, 7, 8, 9, 10, 11, 12] [0, 0, 0, 0, 1, 2, 3, 4, 5, 6, 7, 8, 9] rfl (by decide +kernel) rfl rfl (fun _ => Nat.le_of_ble_eq_true rfl) 4 8 rfl rfl (As := [.int (nI v)]) (st := []) (cs' := (0, 0)) rfl rfl rfl rfl dX10_behind_44 (fun nw_9 hp_10 ws_12 hw_11 => ?_)
  obtain rfl : nw_9 = daysF k wb ld te pu n m g day v w := hp_10
  have hw_11x : ws_12 = [(x0, .inr (10, [.ref t, .ref d, .ref h, .ref s, .ref o, .ref p, .ref p2, .ref ru, .ref cu, .ref br, .ref bt])), (s, .inr (8, [.ref h, .ref sw, .ref sg, .int day])), (sw, .inl (V.2.2.1, 7, .inl w)), (sg, .inl (V.2.2.1, 7, .inl g)), (o, .inr (8, [.ref h, .ref ow_, .ref og_, .int (day + nI v)])), (ow_, .inl (V.2.2.1, 7, .inl (daysF k wb ld te pu n m g day v w))), (og_, .inl (V.2.2.1, 7, .inl g)), (h, .inr (4, [.ref hk, .ref hfw, .ref hfg, .ref hwb, .ref hld, .ref hte, .ref hpu, .int (nI n), .int hwa, .int (nI m), .ref hnu, .int hto])), (hk, .inl (V.2.2.1, 7, .inl k)), (hwb, .inl (V.2.2.1, 7, .inl wb)), (hld, .inl (V.2.2.1, 9, .inl (nIf ld))), (hte, .inl (V.2.2.1, 9, .inl (nIf te))), (hpu, .inl (V.2.2.1, 9, .inl (nIf pu)))] := hw_11.symm
  clear hw_11; subst hw_11x
  refine g_iload_n X dX10_behind_47 rfl ?_
  refine g_iconst X (-1) dX10_behind_48 (by decide) ?_
  refine g_icmp_ne X 62 dX10_behind_49 (by decide) (fun c49_14 => absurd rfl c49_14) (fun c49_14 => ?_)
  refine g_aload_n X dX10_behind_52 rfl ?_
  refine g_get X uwX10 0 rfl rfl 4 (by decide) kl_X10_35 rfl rfl gwX10 dX10_behind_53 ?_
  refine g_callVi X (c_X8_middle V o ow_ og_ (day + nI v) (daysF k wb ld te pu n m g day v w) h hk hfw hfg hwb hld hte hpu hnu n m hwa hto (by omega) (by omega)) mo_X8_middle kl_X10_137 [4, 5, 7] [0, 0, 0, 0, 1, 2, 0, 3, 0, 0, 0, 0, 0] rfl (by decide +kernel) rfl rfl (fun _ => Nat.le_of_ble_eq_true rfl) 4 8 rfl rfl (As := []) (st := []) (cs' := (0, 0)) rfl rfl rfl rfl dX10_behind_56 (fun r_19 u_15 hp_16 ws_18 hw_17 => ?_)
  obtain rfl : r_19 = midF n (daysF k wb ld te pu n m g day v w) := hp_16
  have hw_17x : ws_18 = [(x0, .inr (10, [.ref t, .ref d, .ref h, .ref s, .ref o, .ref p, .ref p2, .ref ru, .ref cu, .ref br, .ref bt])), (s, .inr (8, [.ref h, .ref sw, .ref sg, .int day])), (sw, .inl (V.2.2.1, 7, .inl w)), (sg, .inl (V.2.2.1, 7, .inl g)), (o, .inr (8, [.ref h, .ref ow_, .ref og_, .int (day + nI v)])), (ow_, .inl (V.2.2.1, 7, .inl (daysF k wb ld te pu n m g day v w))), (og_, .inl (V.2.2.1, 7, .inl g)), (h, .inr (4, [.ref hk, .ref hfw, .ref hfg, .ref hwb, .ref hld, .ref hte, .ref hpu, .int (nI n), .int hwa, .int (nI m), .ref hnu, .int hto])), (hk, .inl (V.2.2.1, 7, .inl k)), (hwb, .inl (V.2.2.1, 7, .inl wb)), (hld, .inl (V.2.2.1, 9, .inl (nIf ld))), (hte, .inl (V.2.2.1, 9, .inl (nIf te))), (hpu, .inl (V.2.2.1, 9, .inl (nIf pu)))] := hw_17.symm
  clear hw_17; subst hw_17x
  refine g_goto X 70 dX10_behind_59 (by decide) ?_
  refine g_sipush X (600) dX10_behind_70 (by decide) ?_
  refine g_iadd X dX10_behind_73 ?_
  exact g_iret X E dX10_behind_74 ⟨daysF k wb ld te pu n m g day v w, g, day + nI v⟩ ((midF n (daysF k wb ld te pu n m g day v w)) + 600) (by first | rfl | (simp [c1_1, c7_2, c12_3, c49_14]; done)) rfl

set_option maxHeartbeats 4000000 in
set_option maxRecDepth 100000 in
theorem m_behind_c (V : gV) (x0 : Nat) (t : Nat) (d : Nat) (h : Nat) (s : Nat) (o : Nat) (p : Nat) (p2 : Nat) (ru : Nat) (cu : Nat) (br : Nat) (bt : Nat) (sw : Nat) (sg : Nat) (day : Int32) (w : Nat → Int32) (g : Nat → Int32) (ow_ : Nat) (og_ : Nat) (oday : Int32) (ow : Nat → Int32) (og : Nat → Int32) (hk : Nat) (hfw : Nat) (hfg : Nat) (hwb : Nat) (hld : Nat) (hte : Nat) (hpu : Nat) (hnu : Nat) (n : Nat) (m : Nat) (hwa : Int32) (hto : Int32) (k : Nat → Int32) (wb : Nat → Int32) (ld : Nat → Nat) (te : Nat → Nat) (pu : Nat → Nat) (v : Nat) (c : Nat) (hn : n ≤ 7) (h1n : 1 ≤ n) (hm : m ≤ 9) (ht : ∀ i, i < m → te i < n ∧ pu i < n) (hv : v ≤ 60) (hc : c < n) : Ki V yX10_behind cX10_behind 3 .int ({ frames := 6, cells := 0, slots := 0, locals := 135 }) [.ref x0, .int (nI v), .int (nI c)] [(x0, .inr (10, [.ref t, .ref d, .ref h, .ref s, .ref o, .ref p, .ref p2, .ref ru, .ref cu, .ref br, .ref bt])), (s, .inr (8, [.ref h, .ref sw, .ref sg, .int day])), (sw, .inl (V.2.2.1, 7, .inl w)), (sg, .inl (V.2.2.1, 7, .inl g)), (o, .inr (8, [.ref h, .ref ow_, .ref og_, .int oday])), (ow_, .inl (V.2.2.1, 7, .inl ow)), (og_, .inl (V.2.2.1, 7, .inl og)), (h, .inr (4, [.ref hk, .ref hfw, .ref hfg, .ref hwb, .ref hld, .ref hte, .ref hpu, .int (nI n), .int hwa, .int (nI m), .ref hnu, .int hto])), (hk, .inl (V.2.2.1, 7, .inl k)), (hwb, .inl (V.2.2.1, 7, .inl wb)), (hld, .inl (V.2.2.1, 9, .inl (nIf ld))), (hte, .inl (V.2.2.1, 9, .inl (nIf te))), (hpu, .inl (V.2.2.1, 9, .inl (nIf pu)))] (fun (r : Int32) (u : (Nat → Int32) × (Nat → Int32) × Int32) => r = daysF k wb ld te pu n m g day v w c + 600) (fun u => [(x0, .inr (10, [.ref t, .ref d, .ref h, .ref s, .ref o, .ref p, .ref p2, .ref ru, .ref cu, .ref br, .ref bt])), (s, .inr (8, [.ref h, .ref sw, .ref sg, .int day])), (sw, .inl (V.2.2.1, 7, .inl w)), (sg, .inl (V.2.2.1, 7, .inl g)), (o, .inr (8, [.ref h, .ref ow_, .ref og_, .int u.2.2])), (ow_, .inl (V.2.2.1, 7, .inl u.1)), (og_, .inl (V.2.2.1, 7, .inl u.2.1)), (h, .inr (4, [.ref hk, .ref hfw, .ref hfg, .ref hwb, .ref hld, .ref hte, .ref hpu, .int (nI n), .int hwa, .int (nI m), .ref hnu, .int hto])), (hk, .inl (V.2.2.1, 7, .inl k)), (hwb, .inl (V.2.2.1, 7, .inl wb)), (hld, .inl (V.2.2.1, 9, .inl (nIf ld))), (hte, .inl (V.2.2.1, 9, .inl (nIf te))), (hpu, .inl (V.2.2.1, 9, .inl (nIf pu)))]) := by
  refine Ki.of [some (.ref x0), some (.int (nI v)), some (.int (nI c))] (by decide) (Nat.le_of_ble_eq_true rfl) rfl rfl ?_
  intro Z X E
  have X : gX V Z RX10 cX10_behind 3 ({ frames := 6, cells := 0, slots := 0, locals := 135 }) := X
  refine g_iload_n X dX10_behind_0 rfl ?_
  refine g_if_lt X 26 dX10_behind_1 (by decide) (fun c1_1 => absurd c1_1 (flt (a := v) (b := 0) (by omega) (by omega) (by omega))) (fun c1_1 => ?_)
  refine g_iload_n X dX10_behind_4 rfl ?_
  refine g_bipush X (60) dX10_behind_5 (by decide) ?_
  refine g_icmp_gt X 26 dX10_behind_7 (by decide) (fun c7_2 => absurd c7_2 (fgt (a := v) (b := 60) (by omega) (by omega) (by omega))) (fun c7_2 => ?_)
  refine g_iload_n X dX10_behind_10 rfl ?_
  refine g_iconst X (-1) dX10_behind_11 (by decide) ?_
  refine g_icmp_eq X 28 dX10_behind_12 (by decide) (fun c12_3 => absurd c12_3 (nI_nm1 (by omega))) (fun c12_3 => ?_)
  refine g_aload_n X dX10_behind_15 rfl ?_
  refine g_get X uwX10 0 rfl rfl 2 (by decide) kl_X10_23 rfl rfl gwX10 dX10_behind_16 ?_
  refine g_iload_n X dX10_behind_19 rfl ?_
  refine g_callVi X (c_X4_hasClockG V h hk hfw hfg hwb hld hte hpu hnu n m hwa hto (nI c) (by omega)) mo_X4_hasClock kl_X10_113 [7] [0, 0, 0, 0, 0, 0, 0, 1, 0, 0, 0, 0, 0] rfl (by decide +kernel) rfl rfl (fun _ => Nat.le_of_ble_eq_true rfl) 7 4 rfl rfl (As := [.int (nI c)]) (st := []) (cs' := (0, 0)) rfl rfl rfl rfl dX10_behind_20 (fun r_8 u_4 hp_5 ws_7 hw_6 => ?_)
  obtain rfl : r_8 = (if okC n (nI c) then 1 else 0) := hp_5
  have hw_6x : ws_7 = [(x0, .inr (10, [.ref t, .ref d, .ref h, .ref s, .ref o, .ref p, .ref p2, .ref ru, .ref cu, .ref br, .ref bt])), (s, .inr (8, [.ref h, .ref sw, .ref sg, .int day])), (sw, .inl (V.2.2.1, 7, .inl w)), (sg, .inl (V.2.2.1, 7, .inl g)), (o, .inr (8, [.ref h, .ref ow_, .ref og_, .int oday])), (ow_, .inl (V.2.2.1, 7, .inl ow)), (og_, .inl (V.2.2.1, 7, .inl og)), (h, .inr (4, [.ref hk, .ref hfw, .ref hfg, .ref hwb, .ref hld, .ref hte, .ref hpu, .int (nI n), .int hwa, .int (nI m), .ref hnu, .int hto])), (hk, .inl (V.2.2.1, 7, .inl k)), (hwb, .inl (V.2.2.1, 7, .inl wb)), (hld, .inl (V.2.2.1, 9, .inl (nIf ld))), (hte, .inl (V.2.2.1, 9, .inl (nIf te))), (hpu, .inl (V.2.2.1, 9, .inl (nIf pu)))] := hw_6.symm
  clear hw_6; subst hw_6x
  refine g_if_ne X 28 dX10_behind_23 (by decide) (fun c23_9 => ?_) (fun c23_9 => absurd c23_9 (by rw [if_pos (okC_nI hc (by omega))]; decide))
  refine g_aload_n X dX10_behind_28 rfl ?_
  refine g_get X uwX10 0 rfl rfl 4 (by decide) kl_X10_35 rfl rfl gwX10 dX10_behind_29 ?_
  refine g_aload_n X dX10_behind_32 rfl ?_
  refine g_get X uwX10 0 rfl rfl 3 (by decide) kl_X10_31 rfl rfl gwX10 dX10_behind_33 ?_
  refine g_callVv X (c_X8_takeFrom V o ow_ og_ oday ow og h s sw sg h day w g) mo_X8_takeFrom kl_X10_166 [4, 5, 6, 1, 2, 3] [0, 4, 5, 6, 1, 2, 3, 0, 0, 0, 0, 0, 0] rfl (by decide +kernel) rfl rfl (fun _ => Nat.le_of_ble_eq_true rfl) 4 8 rfl rfl (As := [.ref s]) (st := []) (cs' := (0, 0)) rfl rfl rfl rfl dX10_behind_36 (fun u_10 hp_11 ws_13 hw_12 => ?_)
  have hw_12x : ws_13 = [(x0, .inr (10, [.ref t, .ref d, .ref h, .ref s, .ref o, .ref p, .ref p2, .ref ru, .ref cu, .ref br, .ref bt])), (s, .inr (8, [.ref h, .ref sw, .ref sg, .int day])), (sw, .inl (V.2.2.1, 7, .inl w)), (sg, .inl (V.2.2.1, 7, .inl g)), (o, .inr (8, [.ref h, .ref ow_, .ref og_, .int day])), (ow_, .inl (V.2.2.1, 7, .inl w)), (og_, .inl (V.2.2.1, 7, .inl g)), (h, .inr (4, [.ref hk, .ref hfw, .ref hfg, .ref hwb, .ref hld, .ref hte, .ref hpu, .int (nI n), .int hwa, .int (nI m), .ref hnu, .int hto])), (hk, .inl (V.2.2.1, 7, .inl k)), (hwb, .inl (V.2.2.1, 7, .inl wb)), (hld, .inl (V.2.2.1, 9, .inl (nIf ld))), (hte, .inl (V.2.2.1, 9, .inl (nIf te))), (hpu, .inl (V.2.2.1, 9, .inl (nIf pu)))] := hw_12.symm
  clear hw_12; subst hw_12x
  refine g_aload_n X dX10_behind_39 rfl ?_
  refine g_get X uwX10 0 rfl rfl 4 (by decide) kl_X10_35 rfl rfl gwX10 dX10_behind_40 ?_
  refine g_iload_n X dX10_behind_43 rfl ?_
  refine g_callVv X (c_X8_passDays V o ow_ og_ day w g h hk hfw hfg hwb hld hte hpu hnu n m hwa hto k wb ld te pu v (by omega) (by omega) (by omega) ht) mo_X8_passDays kl_X10_144 [4, 5, 6, 7, 8, 9, 10, 11, 12] [0, 0, 0, 0, 1, 2, 3, 4, 5, 6, 7, 8, 9] rfl (by decide +kernel) rfl rfl (fun _ => Nat.le_of_ble_eq_true rfl) 4 8 rfl rfl (As := [.int (nI v)]) (st := []) (cs' := (0, 0)) rfl rfl rfl rfl dX10_behind_44 (fun nw_15 hp_16 ws_18 hw_17 => ?_)
  obtain rfl : nw_15 = daysF k wb ld te pu n m g day v w := hp_16
  have hw_17x : ws_18 = [(x0, .inr (10, [.ref t, .ref d, .ref h, .ref s, .ref o, .ref p, .ref p2, .ref ru, .ref cu, .ref br, .ref bt])), (s, .inr (8, [.ref h, .ref sw, .ref sg, .int day])), (sw, .inl (V.2.2.1, 7, .inl w)), (sg, .inl (V.2.2.1, 7, .inl g)), (o, .inr (8, [.ref h, .ref ow_, .ref og_, .int (day + nI v)])), (ow_, .inl (V.2.2.1, 7, .inl (daysF k wb ld te pu n m g day v w))), (og_, .inl (V.2.2.1, 7, .inl g)), (h, .inr (4, [.ref hk, .ref hfw, .ref hfg, .ref hwb, .ref hld, .ref hte, .ref hpu, .int (nI n), .int hwa, .int (nI m), .ref hnu, .int hto])), (hk, .inl (V.2.2.1, 7, .inl k)), (hwb, .inl (V.2.2.1, 7, .inl wb)), (hld, .inl (V.2.2.1, 9, .inl (nIf ld))), (hte, .inl (V.2.2.1, 9, .inl (nIf te))), (hpu, .inl (V.2.2.1, 9, .inl (nIf pu)))] := hw_17.symm
  clear hw_17; subst hw_17x
  refine g_iload_n X dX10_behind_47 rfl ?_
  refine g_iconst X (-1) dX10_behind_48 (by decide) ?_
  refine g_icmp_ne X 62 dX10_behind_49 (by decide) (fun c49_20 => ?_) (fun c49_20 => absurd c49_20 (nI_nm1 (by omega)))
  refine g_aload_n X dX10_behind_62 rfl ?_
  refine g_get X uwX10 0 rfl rfl 4 (by decide) kl_X10_35 rfl rfl gwX10 dX10_behind_63 ?_
  refine g_iload_n X dX10_behind_66 rfl ?_
  refine g_callVi X (c_X8_wrongOf V o ow_ og_ (day + nI v) (daysF k wb ld te pu n m g day v w) h c (by omega)) mo_X8_wrongOf kl_X10_121 [4, 5] [0, 0, 0, 0, 1, 2, 0, 0, 0, 0, 0, 0, 0] rfl (by decide +kernel) rfl rfl (fun _ => Nat.le_of_ble_eq_true rfl) 4 8 rfl rfl (As := [.int (nI c)]) (st := []) (cs' := (0, 0)) rfl rfl rfl rfl dX10_behind_67 (fun r_25 u_21 hp_22 ws_24 hw_23 => ?_)
  obtain rfl : r_25 = (daysF k wb ld te pu n m g day v w) c := hp_22
  have hw_23x : ws_24 = [(x0, .inr (10, [.ref t, .ref d, .ref h, .ref s, .ref o, .ref p, .ref p2, .ref ru, .ref cu, .ref br, .ref bt])), (s, .inr (8, [.ref h, .ref sw, .ref sg, .int day])), (sw, .inl (V.2.2.1, 7, .inl w)), (sg, .inl (V.2.2.1, 7, .inl g)), (o, .inr (8, [.ref h, .ref ow_, .ref og_, .int (day + nI v)])), (ow_, .inl (V.2.2.1, 7, .inl (daysF k wb ld te pu n m g day v w))), (og_, .inl (V.2.2.1, 7, .inl g)), (h, .inr (4, [.ref hk, .ref hfw, .ref hfg, .ref hwb, .ref hld, .ref hte, .ref hpu, .int (nI n), .int hwa, .int (nI m), .ref hnu, .int hto])), (hk, .inl (V.2.2.1, 7, .inl k)), (hwb, .inl (V.2.2.1, 7, .inl wb)), (hld, .inl (V.2.2.1, 9, .inl (nIf ld))), (hte, .inl (V.2.2.1, 9, .inl (nIf te))), (hpu, .inl (V.2.2.1, 9, .inl (nIf pu)))] := hw_23.symm
  clear hw_23; subst hw_23x
  refine g_sipush X (600) dX10_behind_70 (by decide) ?_
  refine g_iadd X dX10_behind_73 ?_
  exact g_iret X E dX10_behind_74 ⟨daysF k wb ld te pu n m g day v w, g, day + nI v⟩ (((daysF k wb ld te pu n m g day v w) c) + 600) (by first | rfl | (simp [c1_1, c7_2, c12_3, c23_9, c49_20]; done)) rfl

set_option maxHeartbeats 4000000 in
set_option maxRecDepth 100000 in
theorem m_right_bad (V : gV) (x0 : Nat) (t : Nat) (d : Nat) (h : Nat) (s : Nat) (o : Nat) (p : Nat) (p2 : Nat) (ru : Nat) (cu : Nat) (br : Nat) (bt : Nat) (v : Int32) (kk : Int32) (hbad : ¬ (¬ v < 0 ∧ ¬ 100 < v ∧ ¬ kk < 0 ∧ kk ≤ 2)) : Ki V yX10_right cX10_right 3 .int ({ frames := 0, cells := 0, slots := 0, locals := 0 }) [.ref x0, .int v, .int kk] [(x0, .inr (10, [.ref t, .ref d, .ref h, .ref s, .ref o, .ref p, .ref p2, .ref ru, .ref cu, .ref br, .ref bt]))] (fun (r : Int32) (u : Unit) => r = -1) (fun u => [(x0, .inr (10, [.ref t, .ref d, .ref h, .ref s, .ref o, .ref p, .ref p2, .ref ru, .ref cu, .ref br, .ref bt]))]) := by
  refine Ki.of [some (.ref x0), some (.int v), some (.int kk)] (by decide) (Nat.le_of_ble_eq_true rfl) rfl rfl ?_
  intro Z X E
  have X : gX V Z RX10 cX10_right 3 ({ frames := 0, cells := 0, slots := 0, locals := 0 }) := X
  refine g_iload_n X dX10_right_0 rfl ?_
  refine g_if_lt X 19 dX10_right_1 (by decide) (fun c1_1 => ?_) (fun c1_1 => ?_)
  · have c1_1d := Int32.not_le.mpr c1_1
    refine g_iconst X (-1) dX10_right_19 (by decide) ?_
    exact g_iret X E dX10_right_20 () (-1) (by first | rfl | (simp [c1_1, c1_1d]; done)) rfl
  · have c1_1d := Int32.not_lt.mp c1_1
    refine g_iload_n X dX10_right_4 rfl ?_
    refine g_bipush X (100) dX10_right_5 (by decide) ?_
    refine g_icmp_gt X 19 dX10_right_7 (by decide) (fun c7_2 => ?_) (fun c7_2 => ?_)
    · have c7_2d := Int32.not_le.mpr c7_2
      refine g_iconst X (-1) dX10_right_19 (by decide) ?_
      exact g_iret X E dX10_right_20 () (-1) (by first | rfl | (simp [c1_1, c1_1d, c7_2, c7_2d]; done)) rfl
    · have c7_2d := Int32.not_lt.mp c7_2
      refine g_iload_n X dX10_right_10 rfl ?_
      refine g_if_lt X 19 dX10_right_11 (by decide) (fun c11_3 => ?_) (fun c11_3 => ?_)
      · have c11_3d := Int32.not_le.mpr c11_3
        refine g_iconst X (-1) dX10_right_19 (by decide) ?_
        exact g_iret X E dX10_right_20 () (-1) (by first | rfl | (simp [c1_1, c1_1d, c7_2, c7_2d, c11_3, c11_3d]; done)) rfl
      · have c11_3d := Int32.not_lt.mp c11_3
        refine g_iload_n X dX10_right_14 rfl ?_
        refine g_iconst X (2) dX10_right_15 (by decide) ?_
        refine g_icmp_le X 21 dX10_right_16 (by decide) (fun c16_4 => ?_) (fun c16_4 => ?_)
        · have c16_4d := Int32.not_lt.mpr c16_4
          exact absurd ⟨c1_1, c7_2, c11_3, c16_4⟩ hbad
        · have c16_4d := Int32.not_le.mp c16_4
          refine g_iconst X (-1) dX10_right_19 (by decide) ?_
          exact g_iret X E dX10_right_20 () (-1) (by first | rfl | (simp [c1_1, c1_1d, c7_2, c7_2d, c11_3, c11_3d, c16_4, c16_4d]; done)) rfl

set_option maxHeartbeats 4000000 in
set_option maxRecDepth 100000 in
theorem m_right_0 (V : gV) (x0 : Nat) (t : Nat) (d : Nat) (h : Nat) (s : Nat) (o : Nat) (p : Nat) (p2 : Nat) (ru : Nat) (cu : Nat) (br : Nat) (bt : Nat) (sw : Nat) (sg : Nat) (day : Int32) (w : Nat → Int32) (g : Nat → Int32) (ow_ : Nat) (og_ : Nat) (oday : Int32) (ow : Nat → Int32) (og : Nat → Int32) (hk : Nat) (hfw : Nat) (hfg : Nat) (hwb : Nat) (hld : Nat) (hte : Nat) (hpu : Nat) (hnu : Nat) (n : Nat) (m : Nat) (hwa : Int32) (hto : Int32) (k : Nat → Int32) (le : Int32) (c1 : Int32) (c2 : Int32) (v : Int32) (hn : n ≤ 7) (hB : Bd n w) (h1 : ¬ v < 0) (h2 : ¬ 100 < v) : Ki V yX10_right cX10_right 3 .int ({ frames := 6, cells := 0, slots := 0, locals := 141 }) [.ref x0, .int v, .int 0] [(x0, .inr (10, [.ref t, .ref d, .ref h, .ref s, .ref o, .ref p, .ref p2, .ref ru, .ref cu, .ref br, .ref bt])), (s, .inr (8, [.ref h, .ref sw, .ref sg, .int day])), (sw, .inl (V.2.2.1, 7, .inl w)), (sg, .inl (V.2.2.1, 7, .inl g)), (o, .inr (8, [.ref h, .ref ow_, .ref og_, .int oday])), (ow_, .inl (V.2.2.1, 7, .inl ow)), (og_, .inl (V.2.2.1, 7, .inl og)), (h, .inr (4, [.ref hk, .ref hfw, .ref hfg, .ref hwb, .ref hld, .ref hte, .ref hpu, .int (nI n), .int hwa, .int (nI m), .ref hnu, .int hto])), (hk, .inl (V.2.2.1, 7, .inl k)), (cu, .inr (3, [.int le, .int c1, .int c2]))] (fun (r : Int32) (u : Int32 × Int32 × Int32) => r = rgtF 0 (cureF k day n v w)) (fun u => [(x0, .inr (10, [.ref t, .ref d, .ref h, .ref s, .ref o, .ref p, .ref p2, .ref ru, .ref cu, .ref br, .ref bt])), (s, .inr (8, [.ref h, .ref sw, .ref sg, .int day])), (sw, .inl (V.2.2.1, 7, .inl w)), (sg, .inl (V.2.2.1, 7, .inl g)), (o, .inr (8, [.ref h, .ref ow_, .ref og_, .int day])), (ow_, .inl (V.2.2.1, 7, .inl w)), (og_, .inl (V.2.2.1, 7, .inl g)), (h, .inr (4, [.ref hk, .ref hfw, .ref hfg, .ref hwb, .ref hld, .ref hte, .ref hpu, .int (nI n), .int hwa, .int (nI m), .ref hnu, .int hto])), (hk, .inl (V.2.2.1, 7, .inl k)), (cu, .inr (3, [.int u.1, .int u.2.1, .int u.2.2]))]) := by
  refine Ki.of [some (.ref x0), some (.int v), some (.int 0)] (by decide) (Nat.le_of_ble_eq_true rfl) rfl rfl ?_
  intro Z X E
  have X : gX V Z RX10 cX10_right 3 ({ frames := 6, cells := 0, slots := 0, locals := 141 }) := X
  refine g_iload_n X dX10_right_0 rfl ?_
  refine g_if_lt X 19 dX10_right_1 (by decide) (fun c1_1 => absurd c1_1 h1) (fun c1_1 => ?_)
  refine g_iload_n X dX10_right_4 rfl ?_
  refine g_bipush X (100) dX10_right_5 (by decide) ?_
  refine g_icmp_gt X 19 dX10_right_7 (by decide) (fun c7_2 => absurd c7_2 h2) (fun c7_2 => ?_)
  refine g_iload_n X dX10_right_10 rfl ?_
  refine g_if_lt X 19 dX10_right_11 (by decide) (fun c11_3 => absurd c11_3 (by decide)) (fun c11_3 => ?_)
  refine g_iload_n X dX10_right_14 rfl ?_
  refine g_iconst X (2) dX10_right_15 (by decide) ?_
  refine g_icmp_le X 21 dX10_right_16 (by decide) (fun c16_4 => ?_) (fun c16_4 => absurd (by decide) c16_4)
  refine g_aload_n X dX10_right_21 rfl ?_
  refine g_get X uwX10 0 rfl rfl 4 (by decide) kl_X10_35 rfl rfl gwX10 dX10_right_22 ?_
  refine g_aload_n X dX10_right_25 rfl ?_
  refine g_get X uwX10 0 rfl rfl 3 (by decide) kl_X10_31 rfl rfl gwX10 dX10_right_26 ?_
  refine g_callVv X (c_X8_takeFrom V o ow_ og_ oday ow og h s sw sg h day w g) mo_X8_takeFrom kl_X10_166 [4, 5, 6, 1, 2, 3] [0, 4, 5, 6, 1, 2, 3, 0, 0, 0] rfl (by decide +kernel) rfl rfl (fun _ => Nat.le_of_ble_eq_true rfl) 4 8 rfl rfl (As := [.ref s]) (st := []) (cs' := (0, 0)) rfl rfl rfl rfl dX10_right_29 (fun u_5 hp_6 ws_8 hw_7 => ?_)
  have hw_7x : ws_8 = [(x0, .inr (10, [.ref t, .ref d, .ref h, .ref s, .ref o, .ref p, .ref p2, .ref ru, .ref cu, .ref br, .ref bt])), (s, .inr (8, [.ref h, .ref sw, .ref sg, .int day])), (sw, .inl (V.2.2.1, 7, .inl w)), (sg, .inl (V.2.2.1, 7, .inl g)), (o, .inr (8, [.ref h, .ref ow_, .ref og_, .int day])), (ow_, .inl (V.2.2.1, 7, .inl w)), (og_, .inl (V.2.2.1, 7, .inl g)), (h, .inr (4, [.ref hk, .ref hfw, .ref hfg, .ref hwb, .ref hld, .ref hte, .ref hpu, .int (nI n), .int hwa, .int (nI m), .ref hnu, .int hto])), (hk, .inl (V.2.2.1, 7, .inl k)), (cu, .inr (3, [.int le, .int c1, .int c2]))] := hw_7.symm
  clear hw_7; subst hw_7x
  refine g_aload_n X dX10_right_32 rfl ?_
  refine g_get X uwX10 0 rfl rfl 8 (by decide) kl_X10_60 rfl rfl gwX10 dX10_right_33 ?_
  refine g_aload_n X dX10_right_36 rfl ?_
  refine g_get X uwX10 0 rfl rfl 4 (by decide) kl_X10_35 rfl rfl gwX10 dX10_right_37 ?_
  refine g_iload_n X dX10_right_40 rfl ?_
  refine g_callVv X (c_X3_seek V cu le c1 c2 o ow_ og_ day w h hk hfw hfg hwb hld hte hpu hnu n m hwa hto k v (by omega) (by omega)) mo_X3_seek kl_X10_169 [9, 4, 5, 7, 8] [0, 0, 0, 0, 2, 3, 0, 4, 5, 1] rfl (by decide +kernel) rfl rfl (fun _ => Nat.le_of_ble_eq_true rfl) 9 3 rfl rfl (As := [.ref o, .int v]) (st := []) (cs' := (0, 0)) rfl rfl rfl rfl dX10_right_41 (fun u_10 hp_11 ws_13 hw_12 => ?_)
  obtain ⟨nl_15, n1_16, n2_17⟩ := u_10
  obtain ⟨rfl, rfl, rfl⟩ : nl_15 = (cureF k day n v w).1 ∧ n1_16 = (cureF k day n v w).2.1 ∧ n2_17 = (cureF k day n v w).2.2 := hp_11
  have hw_12x : ws_13 = [(x0, .inr (10, [.ref t, .ref d, .ref h, .ref s, .ref o, .ref p, .ref p2, .ref ru, .ref cu, .ref br, .ref bt])), (s, .inr (8, [.ref h, .ref sw, .ref sg, .int day])), (sw, .inl (V.2.2.1, 7, .inl w)), (sg, .inl (V.2.2.1, 7, .inl g)), (o, .inr (8, [.ref h, .ref ow_, .ref og_, .int day])), (ow_, .inl (V.2.2.1, 7, .inl w)), (og_, .inl (V.2.2.1, 7, .inl g)), (h, .inr (4, [.ref hk, .ref hfw, .ref hfg, .ref hwb, .ref hld, .ref hte, .ref hpu, .int (nI n), .int hwa, .int (nI m), .ref hnu, .int hto])), (hk, .inl (V.2.2.1, 7, .inl k)), (cu, .inr (3, [.int ((cureF k day n v w).1), .int ((cureF k day n v w).2.1), .int ((cureF k day n v w).2.2)]))] := hw_12.symm
  clear hw_12; subst hw_12x
  refine g_aload_n X dX10_right_44 rfl ?_
  refine g_get X uwX10 0 rfl rfl 8 (by decide) kl_X10_60 rfl rfl gwX10 dX10_right_45 ?_
  refine g_getN X uwX3 9 rfl rfl 0 (by decide) kl_X10_173 rfl rfl gwX3 dX10_right_48 ?_
  refine g_bipush X (-4) dX10_right_51 (by decide) ?_
  refine g_icmp_eq X 67 dX10_right_53 (by decide) (fun c53_18 => ?_) (fun c53_18 => ?_)
  · refine g_bipush X (-4) dX10_right_67 (by decide) ?_
    exact g_iret X E dX10_right_69 ⟨(cureF k day n v w).1, (cureF k day n v w).2.1, (cureF k day n v w).2.2⟩ (-4) (by rw [rgtF]; simp [c53_18]) rfl
  · refine g_iload_n X dX10_right_56 rfl ?_
    refine g_aload_n X dX10_right_57 rfl ?_
    refine g_get X uwX10 0 rfl rfl 8 (by decide) kl_X10_60 rfl rfl gwX10 dX10_right_58 ?_
    refine g_getN X uwX3 9 rfl rfl 0 (by decide) kl_X10_173 rfl rfl gwX3 dX10_right_61 ?_
    refine g_icmp_le X 70 dX10_right_64 (by decide) (fun c64_19 => ?_) (fun c64_19 => ?_)
    · have c64_19d := Int32.not_lt.mpr c64_19
      refine g_iload_n X dX10_right_70 rfl ?_
      refine g_if_ne X 82 dX10_right_71 (by decide) (fun c71_20 => absurd (by decide) c71_20) (fun c71_20 => ?_)
      refine g_aload_n X dX10_right_74 rfl ?_
      refine g_get X uwX10 0 rfl rfl 8 (by decide) kl_X10_60 rfl rfl gwX10 dX10_right_75 ?_
      refine g_getN X uwX3 9 rfl rfl 0 (by decide) kl_X10_173 rfl rfl gwX3 dX10_right_78 ?_
      exact g_iret X E dX10_right_81 ⟨(cureF k day n v w).1, (cureF k day n v w).2.1, (cureF k day n v w).2.2⟩ ((cureF k day n v w).1) (by rw [rgtF]; simp [c53_18, c64_19, c64_19d]) rfl
    · have c64_19d := Int32.not_le.mp c64_19
      refine g_bipush X (-4) dX10_right_67 (by decide) ?_
      exact g_iret X E dX10_right_69 ⟨(cureF k day n v w).1, (cureF k day n v w).2.1, (cureF k day n v w).2.2⟩ (-4) (by rw [rgtF]; simp [c53_18, c64_19, c64_19d]) rfl

set_option maxHeartbeats 4000000 in
set_option maxRecDepth 100000 in
theorem m_right_1 (V : gV) (x0 : Nat) (t : Nat) (d : Nat) (h : Nat) (s : Nat) (o : Nat) (p : Nat) (p2 : Nat) (ru : Nat) (cu : Nat) (br : Nat) (bt : Nat) (sw : Nat) (sg : Nat) (day : Int32) (w : Nat → Int32) (g : Nat → Int32) (ow_ : Nat) (og_ : Nat) (oday : Int32) (ow : Nat → Int32) (og : Nat → Int32) (hk : Nat) (hfw : Nat) (hfg : Nat) (hwb : Nat) (hld : Nat) (hte : Nat) (hpu : Nat) (hnu : Nat) (n : Nat) (m : Nat) (hwa : Int32) (hto : Int32) (k : Nat → Int32) (le : Int32) (c1 : Int32) (c2 : Int32) (v : Int32) (hn : n ≤ 7) (hB : Bd n w) (h1 : ¬ v < 0) (h2 : ¬ 100 < v) : Ki V yX10_right cX10_right 3 .int ({ frames := 6, cells := 0, slots := 0, locals := 141 }) [.ref x0, .int v, .int 1] [(x0, .inr (10, [.ref t, .ref d, .ref h, .ref s, .ref o, .ref p, .ref p2, .ref ru, .ref cu, .ref br, .ref bt])), (s, .inr (8, [.ref h, .ref sw, .ref sg, .int day])), (sw, .inl (V.2.2.1, 7, .inl w)), (sg, .inl (V.2.2.1, 7, .inl g)), (o, .inr (8, [.ref h, .ref ow_, .ref og_, .int oday])), (ow_, .inl (V.2.2.1, 7, .inl ow)), (og_, .inl (V.2.2.1, 7, .inl og)), (h, .inr (4, [.ref hk, .ref hfw, .ref hfg, .ref hwb, .ref hld, .ref hte, .ref hpu, .int (nI n), .int hwa, .int (nI m), .ref hnu, .int hto])), (hk, .inl (V.2.2.1, 7, .inl k)), (cu, .inr (3, [.int le, .int c1, .int c2]))] (fun (r : Int32) (u : Int32 × Int32 × Int32) => r = rgtF 1 (cureF k day n v w)) (fun u => [(x0, .inr (10, [.ref t, .ref d, .ref h, .ref s, .ref o, .ref p, .ref p2, .ref ru, .ref cu, .ref br, .ref bt])), (s, .inr (8, [.ref h, .ref sw, .ref sg, .int day])), (sw, .inl (V.2.2.1, 7, .inl w)), (sg, .inl (V.2.2.1, 7, .inl g)), (o, .inr (8, [.ref h, .ref ow_, .ref og_, .int day])), (ow_, .inl (V.2.2.1, 7, .inl w)), (og_, .inl (V.2.2.1, 7, .inl g)), (h, .inr (4, [.ref hk, .ref hfw, .ref hfg, .ref hwb, .ref hld, .ref hte, .ref hpu, .int (nI n), .int hwa, .int (nI m), .ref hnu, .int hto])), (hk, .inl (V.2.2.1, 7, .inl k)), (cu, .inr (3, [.int u.1, .int u.2.1, .int u.2.2]))]) := by
  refine Ki.of [some (.ref x0), some (.int v), some (.int 1)] (by decide) (Nat.le_of_ble_eq_true rfl) rfl rfl ?_
  intro Z X E
  have X : gX V Z RX10 cX10_right 3 ({ frames := 6, cells := 0, slots := 0, locals := 141 }) := X
  refine g_iload_n X dX10_right_0 rfl ?_
  refine g_if_lt X 19 dX10_right_1 (by decide) (fun c1_1 => absurd c1_1 h1) (fun c1_1 => ?_)
  refine g_iload_n X dX10_right_4 rfl ?_
  refine g_bipush X (100) dX10_right_5 (by decide) ?_
  refine g_icmp_gt X 19 dX10_right_7 (by decide) (fun c7_2 => absurd c7_2 h2) (fun c7_2 => ?_)
  refine g_iload_n X dX10_right_10 rfl ?_
  refine g_if_lt X 19 dX10_right_11 (by decide) (fun c11_3 => absurd c11_3 (by decide)) (fun c11_3 => ?_)
  refine g_iload_n X dX10_right_14 rfl ?_
  refine g_iconst X (2) dX10_right_15 (by decide) ?_
  refine g_icmp_le X 21 dX10_right_16 (by decide) (fun c16_4 => ?_) (fun c16_4 => absurd (by decide) c16_4)
  refine g_aload_n X dX10_right_21 rfl ?_
  refine g_get X uwX10 0 rfl rfl 4 (by decide) kl_X10_35 rfl rfl gwX10 dX10_right_22 ?_
  refine g_aload_n X dX10_right_25 rfl ?_
  refine g_get X uwX10 0 rfl rfl 3 (by decide) kl_X10_31 rfl rfl gwX10 dX10_right_26 ?_
  refine g_callVv X (c_X8_takeFrom V o ow_ og_ oday ow og h s sw sg h day w g) mo_X8_takeFrom kl_X10_166 [4, 5, 6, 1, 2, 3] [0, 4, 5, 6, 1, 2, 3, 0, 0, 0] rfl (by decide +kernel) rfl rfl (fun _ => Nat.le_of_ble_eq_true rfl) 4 8 rfl rfl (As := [.ref s]) (st := []) (cs' := (0, 0)) rfl rfl rfl rfl dX10_right_29 (fun u_5 hp_6 ws_8 hw_7 => ?_)
  have hw_7x : ws_8 = [(x0, .inr (10, [.ref t, .ref d, .ref h, .ref s, .ref o, .ref p, .ref p2, .ref ru, .ref cu, .ref br, .ref bt])), (s, .inr (8, [.ref h, .ref sw, .ref sg, .int day])), (sw, .inl (V.2.2.1, 7, .inl w)), (sg, .inl (V.2.2.1, 7, .inl g)), (o, .inr (8, [.ref h, .ref ow_, .ref og_, .int day])), (ow_, .inl (V.2.2.1, 7, .inl w)), (og_, .inl (V.2.2.1, 7, .inl g)), (h, .inr (4, [.ref hk, .ref hfw, .ref hfg, .ref hwb, .ref hld, .ref hte, .ref hpu, .int (nI n), .int hwa, .int (nI m), .ref hnu, .int hto])), (hk, .inl (V.2.2.1, 7, .inl k)), (cu, .inr (3, [.int le, .int c1, .int c2]))] := hw_7.symm
  clear hw_7; subst hw_7x
  refine g_aload_n X dX10_right_32 rfl ?_
  refine g_get X uwX10 0 rfl rfl 8 (by decide) kl_X10_60 rfl rfl gwX10 dX10_right_33 ?_
  refine g_aload_n X dX10_right_36 rfl ?_
  refine g_get X uwX10 0 rfl rfl 4 (by decide) kl_X10_35 rfl rfl gwX10 dX10_right_37 ?_
  refine g_iload_n X dX10_right_40 rfl ?_
  refine g_callVv X (c_X3_seek V cu le c1 c2 o ow_ og_ day w h hk hfw hfg hwb hld hte hpu hnu n m hwa hto k v (by omega) (by omega)) mo_X3_seek kl_X10_169 [9, 4, 5, 7, 8] [0, 0, 0, 0, 2, 3, 0, 4, 5, 1] rfl (by decide +kernel) rfl rfl (fun _ => Nat.le_of_ble_eq_true rfl) 9 3 rfl rfl (As := [.ref o, .int v]) (st := []) (cs' := (0, 0)) rfl rfl rfl rfl dX10_right_41 (fun u_10 hp_11 ws_13 hw_12 => ?_)
  obtain ⟨nl_15, n1_16, n2_17⟩ := u_10
  obtain ⟨rfl, rfl, rfl⟩ : nl_15 = (cureF k day n v w).1 ∧ n1_16 = (cureF k day n v w).2.1 ∧ n2_17 = (cureF k day n v w).2.2 := hp_11
  have hw_12x : ws_13 = [(x0, .inr (10, [.ref t, .ref d, .ref h, .ref s, .ref o, .ref p, .ref p2, .ref ru, .ref cu, .ref br, .ref bt])), (s, .inr (8, [.ref h, .ref sw, .ref sg, .int day])), (sw, .inl (V.2.2.1, 7, .inl w)), (sg, .inl (V.2.2.1, 7, .inl g)), (o, .inr (8, [.ref h, .ref ow_, .ref og_, .int day])), (ow_, .inl (V.2.2.1, 7, .inl w)), (og_, .inl (V.2.2.1, 7, .inl g)), (h, .inr (4, [.ref hk, .ref hfw, .ref hfg, .ref hwb, .ref hld, .ref hte, .ref hpu, .int (nI n), .int hwa, .int (nI m), .ref hnu, .int hto])), (hk, .inl (V.2.2.1, 7, .inl k)), (cu, .inr (3, [.int ((cureF k day n v w).1), .int ((cureF k day n v w).2.1), .int ((cureF k day n v w).2.2)]))] := hw_12.symm
  clear hw_12; subst hw_12x
  refine g_aload_n X dX10_right_44 rfl ?_
  refine g_get X uwX10 0 rfl rfl 8 (by decide) kl_X10_60 rfl rfl gwX10 dX10_right_45 ?_
  refine g_getN X uwX3 9 rfl rfl 0 (by decide) kl_X10_173 rfl rfl gwX3 dX10_right_48 ?_
  refine g_bipush X (-4) dX10_right_51 (by decide) ?_
  refine g_icmp_eq X 67 dX10_right_53 (by decide) (fun c53_18 => ?_) (fun c53_18 => ?_)
  · refine g_bipush X (-4) dX10_right_67 (by decide) ?_
    exact g_iret X E dX10_right_69 ⟨(cureF k day n v w).1, (cureF k day n v w).2.1, (cureF k day n v w).2.2⟩ (-4) (by rw [rgtF]; simp [c53_18]) rfl
  · refine g_iload_n X dX10_right_56 rfl ?_
    refine g_aload_n X dX10_right_57 rfl ?_
    refine g_get X uwX10 0 rfl rfl 8 (by decide) kl_X10_60 rfl rfl gwX10 dX10_right_58 ?_
    refine g_getN X uwX3 9 rfl rfl 0 (by decide) kl_X10_173 rfl rfl gwX3 dX10_right_61 ?_
    refine g_icmp_le X 70 dX10_right_64 (by decide) (fun c64_19 => ?_) (fun c64_19 => ?_)
    · have c64_19d := Int32.not_lt.mpr c64_19
      refine g_iload_n X dX10_right_70 rfl ?_
      refine g_if_ne X 82 dX10_right_71 (by decide) (fun c71_20 => ?_) (fun c71_20 => absurd c71_20 (by decide))
      refine g_iload_n X dX10_right_82 rfl ?_
      refine g_iconst X (1) dX10_right_83 (by decide) ?_
      refine g_icmp_ne X 97 dX10_right_84 (by decide) (fun c84_21 => absurd (by decide) c84_21) (fun c84_21 => ?_)
      refine g_aload_n X dX10_right_87 rfl ?_
      refine g_get X uwX10 0 rfl rfl 8 (by decide) kl_X10_60 rfl rfl gwX10 dX10_right_88 ?_
      refine g_getN X uwX3 9 rfl rfl 1 (by decide) kl_X10_176 rfl rfl gwX3 dX10_right_91 ?_
      refine g_goto X 104 dX10_right_94 (by decide) ?_
      exact g_iret X E dX10_right_104 ⟨(cureF k day n v w).1, (cureF k day n v w).2.1, (cureF k day n v w).2.2⟩ ((cureF k day n v w).2.1) (by rw [rgtF]; simp [c53_18, c64_19, c64_19d]) rfl
    · have c64_19d := Int32.not_le.mp c64_19
      refine g_bipush X (-4) dX10_right_67 (by decide) ?_
      exact g_iret X E dX10_right_69 ⟨(cureF k day n v w).1, (cureF k day n v w).2.1, (cureF k day n v w).2.2⟩ (-4) (by rw [rgtF]; simp [c53_18, c64_19, c64_19d]) rfl

set_option maxHeartbeats 4000000 in
set_option maxRecDepth 100000 in
theorem m_right_2 (V : gV) (x0 : Nat) (t : Nat) (d : Nat) (h : Nat) (s : Nat) (o : Nat) (p : Nat) (p2 : Nat) (ru : Nat) (cu : Nat) (br : Nat) (bt : Nat) (sw : Nat) (sg : Nat) (day : Int32) (w : Nat → Int32) (g : Nat → Int32) (ow_ : Nat) (og_ : Nat) (oday : Int32) (ow : Nat → Int32) (og : Nat → Int32) (hk : Nat) (hfw : Nat) (hfg : Nat) (hwb : Nat) (hld : Nat) (hte : Nat) (hpu : Nat) (hnu : Nat) (n : Nat) (m : Nat) (hwa : Int32) (hto : Int32) (k : Nat → Int32) (le : Int32) (c1 : Int32) (c2 : Int32) (v : Int32) (hn : n ≤ 7) (hB : Bd n w) (h1 : ¬ v < 0) (h2 : ¬ 100 < v) : Ki V yX10_right cX10_right 3 .int ({ frames := 6, cells := 0, slots := 0, locals := 141 }) [.ref x0, .int v, .int 2] [(x0, .inr (10, [.ref t, .ref d, .ref h, .ref s, .ref o, .ref p, .ref p2, .ref ru, .ref cu, .ref br, .ref bt])), (s, .inr (8, [.ref h, .ref sw, .ref sg, .int day])), (sw, .inl (V.2.2.1, 7, .inl w)), (sg, .inl (V.2.2.1, 7, .inl g)), (o, .inr (8, [.ref h, .ref ow_, .ref og_, .int oday])), (ow_, .inl (V.2.2.1, 7, .inl ow)), (og_, .inl (V.2.2.1, 7, .inl og)), (h, .inr (4, [.ref hk, .ref hfw, .ref hfg, .ref hwb, .ref hld, .ref hte, .ref hpu, .int (nI n), .int hwa, .int (nI m), .ref hnu, .int hto])), (hk, .inl (V.2.2.1, 7, .inl k)), (cu, .inr (3, [.int le, .int c1, .int c2]))] (fun (r : Int32) (u : Int32 × Int32 × Int32) => r = rgtF 2 (cureF k day n v w)) (fun u => [(x0, .inr (10, [.ref t, .ref d, .ref h, .ref s, .ref o, .ref p, .ref p2, .ref ru, .ref cu, .ref br, .ref bt])), (s, .inr (8, [.ref h, .ref sw, .ref sg, .int day])), (sw, .inl (V.2.2.1, 7, .inl w)), (sg, .inl (V.2.2.1, 7, .inl g)), (o, .inr (8, [.ref h, .ref ow_, .ref og_, .int day])), (ow_, .inl (V.2.2.1, 7, .inl w)), (og_, .inl (V.2.2.1, 7, .inl g)), (h, .inr (4, [.ref hk, .ref hfw, .ref hfg, .ref hwb, .ref hld, .ref hte, .ref hpu, .int (nI n), .int hwa, .int (nI m), .ref hnu, .int hto])), (hk, .inl (V.2.2.1, 7, .inl k)), (cu, .inr (3, [.int u.1, .int u.2.1, .int u.2.2]))]) := by
  refine Ki.of [some (.ref x0), some (.int v), some (.int 2)] (by decide) (Nat.le_of_ble_eq_true rfl) rfl rfl ?_
  intro Z X E
  have X : gX V Z RX10 cX10_right 3 ({ frames := 6, cells := 0, slots := 0, locals := 141 }) := X
  refine g_iload_n X dX10_right_0 rfl ?_
  refine g_if_lt X 19 dX10_right_1 (by decide) (fun c1_1 => absurd c1_1 h1) (fun c1_1 => ?_)
  refine g_iload_n X dX10_right_4 rfl ?_
  refine g_bipush X (100) dX10_right_5 (by decide) ?_
  refine g_icmp_gt X 19 dX10_right_7 (by decide) (fun c7_2 => absurd c7_2 h2) (fun c7_2 => ?_)
  refine g_iload_n X dX10_right_10 rfl ?_
  refine g_if_lt X 19 dX10_right_11 (by decide) (fun c11_3 => absurd c11_3 (by decide)) (fun c11_3 => ?_)
  refine g_iload_n X dX10_right_14 rfl ?_
  refine g_iconst X (2) dX10_right_15 (by decide) ?_
  refine g_icmp_le X 21 dX10_right_16 (by decide) (fun c16_4 => ?_) (fun c16_4 => absurd (by decide) c16_4)
  refine g_aload_n X dX10_right_21 rfl ?_
  refine g_get X uwX10 0 rfl rfl 4 (by decide) kl_X10_35 rfl rfl gwX10 dX10_right_22 ?_
  refine g_aload_n X dX10_right_25 rfl ?_
  refine g_get X uwX10 0 rfl rfl 3 (by decide) kl_X10_31 rfl rfl gwX10 dX10_right_26 ?_
  refine g_callVv X (c_X8_takeFrom V o ow_ og_ oday ow og h s sw sg h day w g) mo_X8_takeFrom kl_X10_166 [4, 5, 6, 1, 2, 3] [0, 4, 5, 6, 1, 2, 3, 0, 0, 0] rfl (by decide +kernel) rfl rfl (fun _ => Nat.le_of_ble_eq_true rfl) 4 8 rfl rfl (As := [.ref s]) (st := []) (cs' := (0, 0)) rfl rfl rfl rfl dX10_right_29 (fun u_5 hp_6 ws_8 hw_7 => ?_)
  have hw_7x : ws_8 = [(x0, .inr (10, [.ref t, .ref d, .ref h, .ref s, .ref o, .ref p, .ref p2, .ref ru, .ref cu, .ref br, .ref bt])), (s, .inr (8, [.ref h, .ref sw, .ref sg, .int day])), (sw, .inl (V.2.2.1, 7, .inl w)), (sg, .inl (V.2.2.1, 7, .inl g)), (o, .inr (8, [.ref h, .ref ow_, .ref og_, .int day])), (ow_, .inl (V.2.2.1, 7, .inl w)), (og_, .inl (V.2.2.1, 7, .inl g)), (h, .inr (4, [.ref hk, .ref hfw, .ref hfg, .ref hwb, .ref hld, .ref hte, .ref hpu, .int (nI n), .int hwa, .int (nI m), .ref hnu, .int hto])), (hk, .inl (V.2.2.1, 7, .inl k)), (cu, .inr (3, [.int le, .int c1, .int c2]))] := hw_7.symm
  clear hw_7; subst hw_7x
  refine g_aload_n X dX10_right_32 rfl ?_
  refine g_get X uwX10 0 rfl rfl 8 (by decide) kl_X10_60 rfl rfl gwX10 dX10_right_33 ?_
  refine g_aload_n X dX10_right_36 rfl ?_
  refine g_get X uwX10 0 rfl rfl 4 (by decide) kl_X10_35 rfl rfl gwX10 dX10_right_37 ?_
  refine g_iload_n X dX10_right_40 rfl ?_
  refine g_callVv X (c_X3_seek V cu le c1 c2 o ow_ og_ day w h hk hfw hfg hwb hld hte hpu hnu n m hwa hto k v (by omega) (by omega)) mo_X3_seek kl_X10_169 [9, 4, 5, 7, 8] [0, 0, 0, 0, 2, 3, 0, 4, 5, 1] rfl (by decide +kernel) rfl rfl (fun _ => Nat.le_of_ble_eq_true rfl) 9 3 rfl rfl (As := [.ref o, .int v]) (st := []) (cs' := (0, 0)) rfl rfl rfl rfl dX10_right_41 (fun u_10 hp_11 ws_13 hw_12 => ?_)
  obtain ⟨nl_15, n1_16, n2_17⟩ := u_10
  obtain ⟨rfl, rfl, rfl⟩ : nl_15 = (cureF k day n v w).1 ∧ n1_16 = (cureF k day n v w).2.1 ∧ n2_17 = (cureF k day n v w).2.2 := hp_11
  have hw_12x : ws_13 = [(x0, .inr (10, [.ref t, .ref d, .ref h, .ref s, .ref o, .ref p, .ref p2, .ref ru, .ref cu, .ref br, .ref bt])), (s, .inr (8, [.ref h, .ref sw, .ref sg, .int day])), (sw, .inl (V.2.2.1, 7, .inl w)), (sg, .inl (V.2.2.1, 7, .inl g)), (o, .inr (8, [.ref h, .ref ow_, .ref og_, .int day])), (ow_, .inl (V.2.2.1, 7, .inl w)), (og_, .inl (V.2.2.1, 7, .inl g)), (h, .inr (4, [.ref hk, .ref hfw, .ref hfg, .ref hwb, .ref hld, .ref hte, .ref hpu, .int (nI n), .int hwa, .int (nI m), .ref hnu, .int hto])), (hk, .inl (V.2.2.1, 7, .inl k)), (cu, .inr (3, [.int ((cureF k day n v w).1), .int ((cureF k day n v w).2.1), .int ((cureF k day n v w).2.2)]))] := hw_12.symm
  clear hw_12; subst hw_12x
  refine g_aload_n X dX10_right_44 rfl ?_
  refine g_get X uwX10 0 rfl rfl 8 (by decide) kl_X10_60 rfl rfl gwX10 dX10_right_45 ?_
  refine g_getN X uwX3 9 rfl rfl 0 (by decide) kl_X10_173 rfl rfl gwX3 dX10_right_48 ?_
  refine g_bipush X (-4) dX10_right_51 (by decide) ?_
  refine g_icmp_eq X 67 dX10_right_53 (by decide) (fun c53_18 => ?_) (fun c53_18 => ?_)
  · refine g_bipush X (-4) dX10_right_67 (by decide) ?_
    exact g_iret X E dX10_right_69 ⟨(cureF k day n v w).1, (cureF k day n v w).2.1, (cureF k day n v w).2.2⟩ (-4) (by rw [rgtF]; simp [c53_18]) rfl
  · refine g_iload_n X dX10_right_56 rfl ?_
    refine g_aload_n X dX10_right_57 rfl ?_
    refine g_get X uwX10 0 rfl rfl 8 (by decide) kl_X10_60 rfl rfl gwX10 dX10_right_58 ?_
    refine g_getN X uwX3 9 rfl rfl 0 (by decide) kl_X10_173 rfl rfl gwX3 dX10_right_61 ?_
    refine g_icmp_le X 70 dX10_right_64 (by decide) (fun c64_19 => ?_) (fun c64_19 => ?_)
    · have c64_19d := Int32.not_lt.mpr c64_19
      refine g_iload_n X dX10_right_70 rfl ?_
      refine g_if_ne X 82 dX10_right_71 (by decide) (fun c71_20 => ?_) (fun c71_20 => absurd c71_20 (by decide))
      refine g_iload_n X dX10_right_82 rfl ?_
      refine g_iconst X (1) dX10_right_83 (by decide) ?_
      refine g_icmp_ne X 97 dX10_right_84 (by decide) (fun c84_21 => ?_) (fun c84_21 => absurd c84_21 (by decide))
      refine g_aload_n X dX10_right_97 rfl ?_
      refine g_get X uwX10 0 rfl rfl 8 (by decide) kl_X10_60 rfl rfl gwX10 dX10_right_98 ?_
      refine g_getN X uwX3 9 rfl rfl 2 (by decide) kl_X10_179 rfl rfl gwX3 dX10_right_101 ?_
      exact g_iret X E dX10_right_104 ⟨(cureF k day n v w).1, (cureF k day n v w).2.1, (cureF k day n v w).2.2⟩ ((cureF k day n v w).2.2) (by rw [rgtF]; simp [c53_18, c64_19, c64_19d]) rfl
    · have c64_19d := Int32.not_le.mp c64_19
      refine g_bipush X (-4) dX10_right_67 (by decide) ?_
      exact g_iret X E dX10_right_69 ⟨(cureF k day n v w).1, (cureF k day n v w).2.1, (cureF k day n v w).2.2⟩ (-4) (by rw [rgtF]; simp [c53_18, c64_19, c64_19d]) rfl

set_option maxHeartbeats 4000000 in
set_option maxRecDepth 100000 in
theorem m_ring_bad (V : gV) (x0 : Nat) (t : Nat) (d : Nat) (h : Nat) (s : Nat) (o : Nat) (p : Nat) (p2 : Nat) (ru : Nat) (cu : Nat) (br : Nat) (bt : Nat) (kk : Int32) (hbad : ¬ (¬ kk < 0 ∧ kk ≤ 7)) : Ki V yX10_ring cX10_ring 2 .int ({ frames := 0, cells := 0, slots := 0, locals := 0 }) [.ref x0, .int kk] [(x0, .inr (10, [.ref t, .ref d, .ref h, .ref s, .ref o, .ref p, .ref p2, .ref ru, .ref cu, .ref br, .ref bt]))] (fun (r : Int32) (u : Unit) => r = -1) (fun u => [(x0, .inr (10, [.ref t, .ref d, .ref h, .ref s, .ref o, .ref p, .ref p2, .ref ru, .ref cu, .ref br, .ref bt]))]) := by
  refine Ki.of [some (.ref x0), some (.int kk)] (by decide) (Nat.le_of_ble_eq_true rfl) rfl rfl ?_
  intro Z X E
  have X : gX V Z RX10 cX10_ring 2 ({ frames := 0, cells := 0, slots := 0, locals := 0 }) := X
  refine g_iload_n X dX10_ring_0 rfl ?_
  refine g_if_lt X 10 dX10_ring_1 (by decide) (fun c1_1 => ?_) (fun c1_1 => ?_)
  · have c1_1d := Int32.not_le.mpr c1_1
    refine g_iconst X (-1) dX10_ring_10 (by decide) ?_
    exact g_iret X E dX10_ring_11 () (-1) (by first | rfl | (simp [c1_1, c1_1d]; done)) rfl
  · have c1_1d := Int32.not_lt.mp c1_1
    refine g_iload_n X dX10_ring_4 rfl ?_
    refine g_bipush X (7) dX10_ring_5 (by decide) ?_
    refine g_icmp_le X 12 dX10_ring_7 (by decide) (fun c7_2 => ?_) (fun c7_2 => ?_)
    · have c7_2d := Int32.not_lt.mpr c7_2
      exact absurd ⟨c1_1, c7_2⟩ hbad
    · have c7_2d := Int32.not_le.mp c7_2
      refine g_iconst X (-1) dX10_ring_10 (by decide) ?_
      exact g_iret X E dX10_ring_11 () (-1) (by first | rfl | (simp [c1_1, c1_1d, c7_2, c7_2d]; done)) rfl

set_option maxHeartbeats 4000000 in
set_option maxRecDepth 100000 in
theorem m_ring_none (V : gV) (x0 : Nat) (t : Nat) (d : Nat) (h : Nat) (s : Nat) (o : Nat) (p : Nat) (p2 : Nat) (ru : Nat) (cu : Nat) (br : Nat) (bt : Nat) (hk : Nat) (hfw : Nat) (hfg : Nat) (hwb : Nat) (hld : Nat) (hte : Nat) (hpu : Nat) (hnu : Nat) (n : Nat) (m : Nat) (hwa : Int32) (hto : Int32) (kk : Nat) (hn : n ≤ 7) (hkk : n < kk ∧ kk ≤ 7) : Ki V yX10_ring cX10_ring 2 .int ({ frames := 0, cells := 0, slots := 0, locals := 0 }) [.ref x0, .int (nI kk)] [(x0, .inr (10, [.ref t, .ref d, .ref h, .ref s, .ref o, .ref p, .ref p2, .ref ru, .ref cu, .ref br, .ref bt])), (h, .inr (4, [.ref hk, .ref hfw, .ref hfg, .ref hwb, .ref hld, .ref hte, .ref hpu, .int (nI n), .int hwa, .int (nI m), .ref hnu, .int hto]))] (fun (r : Int32) (u : Unit) => r = -4) (fun u => [(x0, .inr (10, [.ref t, .ref d, .ref h, .ref s, .ref o, .ref p, .ref p2, .ref ru, .ref cu, .ref br, .ref bt])), (h, .inr (4, [.ref hk, .ref hfw, .ref hfg, .ref hwb, .ref hld, .ref hte, .ref hpu, .int (nI n), .int hwa, .int (nI m), .ref hnu, .int hto]))]) := by
  refine Ki.of [some (.ref x0), some (.int (nI kk))] (by decide) (Nat.le_of_ble_eq_true rfl) rfl rfl ?_
  intro Z X E
  have X : gX V Z RX10 cX10_ring 2 ({ frames := 0, cells := 0, slots := 0, locals := 0 }) := X
  refine g_iload_n X dX10_ring_0 rfl ?_
  refine g_if_lt X 10 dX10_ring_1 (by decide) (fun c1_1 => absurd c1_1 (flt (a := kk) (b := 0) (by omega) (by omega) (by omega))) (fun c1_1 => ?_)
  refine g_iload_n X dX10_ring_4 rfl ?_
  refine g_bipush X (7) dX10_ring_5 (by decide) ?_
  refine g_icmp_le X 12 dX10_ring_7 (by decide) (fun c7_2 => ?_) (fun c7_2 => absurd (tle (a := kk) (b := 7) (by omega) (by omega) (by omega)) c7_2)
  refine g_iload_n X dX10_ring_12 rfl ?_
  refine g_aload_n X dX10_ring_13 rfl ?_
  refine g_get X uwX10 0 rfl rfl 2 (by decide) kl_X10_23 rfl rfl gwX10 dX10_ring_14 ?_
  refine g_getN X uwX4 1 rfl rfl 7 (by decide) kl_X10_104 rfl rfl gwX4 dX10_ring_17 ?_
  refine g_icmp_le X 26 dX10_ring_20 (by decide) (fun c20_3 => absurd c20_3 (fle (a := kk) (b := n) (by omega) (by omega) (by omega))) (fun c20_3 => ?_)
  refine g_bipush X (-4) dX10_ring_23 (by decide) ?_
  exact g_iret X E dX10_ring_25 () (-4) (by first | rfl | (simp [c1_1, c7_2, c20_3]; done)) rfl

set_option maxHeartbeats 4000000 in
set_option maxRecDepth 100000 in
theorem m_ring_0 (V : gV) (x0 : Nat) (t : Nat) (d : Nat) (h : Nat) (s : Nat) (o : Nat) (p : Nat) (p2 : Nat) (ru : Nat) (cu : Nat) (br : Nat) (bt : Nat) (sw : Nat) (sg : Nat) (day : Int32) (w : Nat → Int32) (g : Nat → Int32) (ow_ : Nat) (og_ : Nat) (oday : Int32) (ow : Nat → Int32) (og : Nat → Int32) (hk : Nat) (hfw : Nat) (hfg : Nat) (hwb : Nat) (hld : Nat) (hte : Nat) (hpu : Nat) (hnu : Nat) (n : Nat) (m : Nat) (hwa : Int32) (hto : Int32) (k : Nat → Int32) (oa : Nat) (co : Nat) (coc : Nat) (cob : Nat) (ch : Nat → Nat) (bd : Nat → Nat) (mn : Nat) (od : Nat → Nat) (lo : Nat) (lor : Nat) (ls : Int32) (ro : Nat → Nat) (hn : n ≤ 7) (h1n : 1 ≤ n) : Ki V yX10_ring cX10_ring 2 .int ({ frames := 4, cells := 0, slots := 0, locals := 92 }) [.ref x0, .int 0] [(x0, .inr (10, [.ref t, .ref d, .ref h, .ref s, .ref o, .ref p, .ref p2, .ref ru, .ref cu, .ref br, .ref bt])), (br, .inr (0, [.ref co, .ref oa, .ref lo])), (co, .inr (2, [.ref coc, .ref cob, .int (nI mn)])), (coc, .inl (V.2.2.1, 7, .inl (nIf ch))), (cob, .inl (V.2.2.1, 7, .inl (nIf bd))), (oa, .inl (V.2.2.1, 7, .inl (nIf od))), (lo, .inr (5, [.ref lor, .int ls])), (lor, .inl (V.2.2.1, 7, .inl (nIf ro))), (s, .inr (8, [.ref h, .ref sw, .ref sg, .int day])), (sw, .inl (V.2.2.1, 7, .inl w)), (sg, .inl (V.2.2.1, 7, .inl g)), (o, .inr (8, [.ref h, .ref ow_, .ref og_, .int oday])), (ow_, .inl (V.2.2.1, 7, .inl ow)), (og_, .inl (V.2.2.1, 7, .inl og)), (h, .inr (4, [.ref hk, .ref hfw, .ref hfg, .ref hwb, .ref hld, .ref hte, .ref hpu, .int (nI n), .int hwa, .int (nI m), .ref hnu, .int hto])), (hk, .inl (V.2.2.1, 7, .inl k))] (fun (r : Int32) (u : Int32 × (Nat → Nat) × (Nat → Nat) × (Nat → Nat) × (Nat → Nat) × (Nat → Int32) × (Nat → Int32) × Int32) => r = (bestR k day n w (waysR n)).1) (fun u => [(x0, .inr (10, [.ref t, .ref d, .ref h, .ref s, .ref o, .ref p, .ref p2, .ref ru, .ref cu, .ref br, .ref bt])), (br, .inr (0, [.ref co, .ref oa, .ref lo])), (co, .inr (2, [.ref coc, .ref cob, .int (nI (n - 1))])), (coc, .inl (V.2.2.1, 7, .inl (nIf u.2.2.2.1))), (cob, .inl (V.2.2.1, 7, .inl (nIf u.2.2.2.2.1))), (oa, .inl (V.2.2.1, 7, .inl (nIf u.2.2.1))), (lo, .inr (5, [.ref lor, .int u.1])), (lor, .inl (V.2.2.1, 7, .inl (nIf u.2.1))), (s, .inr (8, [.ref h, .ref sw, .ref sg, .int day])), (sw, .inl (V.2.2.1, 7, .inl w)), (sg, .inl (V.2.2.1, 7, .inl g)), (o, .inr (8, [.ref h, .ref ow_, .ref og_, .int u.2.2.2.2.2.2.2])), (ow_, .inl (V.2.2.1, 7, .inl u.2.2.2.2.2.1)), (og_, .inl (V.2.2.1, 7, .inl u.2.2.2.2.2.2.1)), (h, .inr (4, [.ref hk, .ref hfw, .ref hfg, .ref hwb, .ref hld, .ref hte, .ref hpu, .int (nI n), .int hwa, .int (nI m), .ref hnu, .int hto])), (hk, .inl (V.2.2.1, 7, .inl k))]) := by
  refine Ki.of [some (.ref x0), some (.int 0)] (by decide) (Nat.le_of_ble_eq_true rfl) rfl rfl ?_
  intro Z X E
  have X : gX V Z RX10 cX10_ring 2 ({ frames := 4, cells := 0, slots := 0, locals := 92 }) := X
  refine g_iload_n X dX10_ring_0 rfl ?_
  refine g_if_lt X 10 dX10_ring_1 (by decide) (fun c1_1 => absurd c1_1 (flt (a := 0) (b := 0) (by omega) (by omega) (by omega))) (fun c1_1 => ?_)
  refine g_iload_n X dX10_ring_4 rfl ?_
  refine g_bipush X (7) dX10_ring_5 (by decide) ?_
  refine g_icmp_le X 12 dX10_ring_7 (by decide) (fun c7_2 => ?_) (fun c7_2 => absurd (tle (a := 0) (b := 7) (by omega) (by omega) (by omega)) c7_2)
  refine g_iload_n X dX10_ring_12 rfl ?_
  refine g_aload_n X dX10_ring_13 rfl ?_
  refine g_get X uwX10 0 rfl rfl 2 (by decide) kl_X10_23 rfl rfl gwX10 dX10_ring_14 ?_
  refine g_getN X uwX4 14 rfl rfl 7 (by decide) kl_X10_104 rfl rfl gwX4 dX10_ring_17 ?_
  refine g_icmp_le X 26 dX10_ring_20 (by decide) (fun c20_3 => ?_) (fun c20_3 => absurd (tle (a := 0) (b := n) (by omega) (by omega) (by omega)) c20_3)
  refine g_aload_n X dX10_ring_26 rfl ?_
  refine g_get X uwX10 0 rfl rfl 9 (by decide) kl_X10_67 rfl rfl gwX10 dX10_ring_27 ?_
  refine g_aload_n X dX10_ring_30 rfl ?_
  refine g_get X uwX10 0 rfl rfl 3 (by decide) kl_X10_31 rfl rfl gwX10 dX10_ring_31 ?_
  refine g_aload_n X dX10_ring_34 rfl ?_
  refine g_get X uwX10 0 rfl rfl 4 (by decide) kl_X10_35 rfl rfl gwX10 dX10_ring_35 ?_
  refine g_callVv X (c_X0_seek V br oa co coc cob ch bd mn od lo lor ls ro s sw sg day w g o ow_ og_ oday ow og h hk hfw hfg hwb hld hte hpu hnu n m hwa hto k (by omega) (by omega)) mo_X0_seek kl_X10_182 [1, 2, 3, 4, 5, 6, 7, 8, 9, 10, 11, 12, 13, 14, 15] [0, 1, 2, 3, 4, 5, 6, 7, 8, 9, 10, 11, 12, 13, 14, 15] rfl (by decide +kernel) rfl rfl (fun _ => Nat.le_of_ble_eq_true rfl) 1 0 rfl rfl (As := [.ref s, .ref o]) (st := []) (cs' := (0, 0)) rfl rfl rfl rfl dX10_ring_38 (fun u_4 hp_5 ws_7 hw_6 => ?_)
  obtain ⟨ns_9, nro_10, nod_11, nch_12, nbd_13, tw_14, tg_15, td_16⟩ := u_4
  obtain ⟨rfl, hro_17⟩ : ns_9 = (bestR k day n w (waysR n)).1 ∧ ∀ j, j < n → nro_10 j = (bestR k day n w (waysR n)).2 j := hp_5
  have hw_6x : ws_7 = [(x0, .inr (10, [.ref t, .ref d, .ref h, .ref s, .ref o, .ref p, .ref p2, .ref ru, .ref cu, .ref br, .ref bt])), (br, .inr (0, [.ref co, .ref oa, .ref lo])), (co, .inr (2, [.ref coc, .ref cob, .int (nI (n - 1))])), (coc, .inl (V.2.2.1, 7, .inl (nIf nch_12))), (cob, .inl (V.2.2.1, 7, .inl (nIf nbd_13))), (oa, .inl (V.2.2.1, 7, .inl (nIf nod_11))), (lo, .inr (5, [.ref lor, .int ((bestR k day n w (waysR n)).1)])), (lor, .inl (V.2.2.1, 7, .inl (nIf nro_10))), (s, .inr (8, [.ref h, .ref sw, .ref sg, .int day])), (sw, .inl (V.2.2.1, 7, .inl w)), (sg, .inl (V.2.2.1, 7, .inl g)), (o, .inr (8, [.ref h, .ref ow_, .ref og_, .int td_16])), (ow_, .inl (V.2.2.1, 7, .inl tw_14)), (og_, .inl (V.2.2.1, 7, .inl tg_15)), (h, .inr (4, [.ref hk, .ref hfw, .ref hfg, .ref hwb, .ref hld, .ref hte, .ref hpu, .int (nI n), .int hwa, .int (nI m), .ref hnu, .int hto])), (hk, .inl (V.2.2.1, 7, .inl k))] := hw_6.symm
  clear hw_6; subst hw_6x
  refine g_iload_n X dX10_ring_41 rfl ?_
  refine g_if_ne X 58 dX10_ring_42 (by decide) (fun c42_18 => absurd (by decide) c42_18) (fun c42_18 => ?_)
  refine g_aload_n X dX10_ring_45 rfl ?_
  refine g_get X uwX10 0 rfl rfl 9 (by decide) kl_X10_67 rfl rfl gwX10 dX10_ring_46 ?_
  refine g_getN X uwX0 1 rfl rfl 2 (by decide) kl_X10_185 rfl rfl gwX0 dX10_ring_49 ?_
  refine g_getN X uwX5 6 rfl rfl 1 (by decide) kl_X10_189 rfl rfl gwX5 dX10_ring_52 ?_
  refine g_goto X 68 dX10_ring_55 (by decide) ?_
  exact g_iret X E dX10_ring_68 ⟨(bestR k day n w (waysR n)).1, nro_10, nod_11, nch_12, nbd_13, tw_14, tg_15, td_16⟩ ((bestR k day n w (waysR n)).1) (by first | rfl | rw [hro_17 (kk - 1) (by omega)]) rfl

set_option maxHeartbeats 4000000 in
set_option maxRecDepth 100000 in
theorem m_ring_k (V : gV) (x0 : Nat) (t : Nat) (d : Nat) (h : Nat) (s : Nat) (o : Nat) (p : Nat) (p2 : Nat) (ru : Nat) (cu : Nat) (br : Nat) (bt : Nat) (sw : Nat) (sg : Nat) (day : Int32) (w : Nat → Int32) (g : Nat → Int32) (ow_ : Nat) (og_ : Nat) (oday : Int32) (ow : Nat → Int32) (og : Nat → Int32) (hk : Nat) (hfw : Nat) (hfg : Nat) (hwb : Nat) (hld : Nat) (hte : Nat) (hpu : Nat) (hnu : Nat) (n : Nat) (m : Nat) (hwa : Int32) (hto : Int32) (k : Nat → Int32) (oa : Nat) (co : Nat) (coc : Nat) (cob : Nat) (ch : Nat → Nat) (bd : Nat → Nat) (mn : Nat) (od : Nat → Nat) (lo : Nat) (lor : Nat) (ls : Int32) (ro : Nat → Nat) (kk : Nat) (hn : n ≤ 7) (h1n : 1 ≤ n) (hkk : 1 ≤ kk ∧ kk ≤ n) : Ki V yX10_ring cX10_ring 2 .int ({ frames := 4, cells := 0, slots := 0, locals := 92 }) [.ref x0, .int (nI kk)] [(x0, .inr (10, [.ref t, .ref d, .ref h, .ref s, .ref o, .ref p, .ref p2, .ref ru, .ref cu, .ref br, .ref bt])), (br, .inr (0, [.ref co, .ref oa, .ref lo])), (co, .inr (2, [.ref coc, .ref cob, .int (nI mn)])), (coc, .inl (V.2.2.1, 7, .inl (nIf ch))), (cob, .inl (V.2.2.1, 7, .inl (nIf bd))), (oa, .inl (V.2.2.1, 7, .inl (nIf od))), (lo, .inr (5, [.ref lor, .int ls])), (lor, .inl (V.2.2.1, 7, .inl (nIf ro))), (s, .inr (8, [.ref h, .ref sw, .ref sg, .int day])), (sw, .inl (V.2.2.1, 7, .inl w)), (sg, .inl (V.2.2.1, 7, .inl g)), (o, .inr (8, [.ref h, .ref ow_, .ref og_, .int oday])), (ow_, .inl (V.2.2.1, 7, .inl ow)), (og_, .inl (V.2.2.1, 7, .inl og)), (h, .inr (4, [.ref hk, .ref hfw, .ref hfg, .ref hwb, .ref hld, .ref hte, .ref hpu, .int (nI n), .int hwa, .int (nI m), .ref hnu, .int hto])), (hk, .inl (V.2.2.1, 7, .inl k))] (fun (r : Int32) (u : Int32 × (Nat → Nat) × (Nat → Nat) × (Nat → Nat) × (Nat → Nat) × (Nat → Int32) × (Nat → Int32) × Int32) => r = nI ((bestR k day n w (waysR n)).2 (kk - 1))) (fun u => [(x0, .inr (10, [.ref t, .ref d, .ref h, .ref s, .ref o, .ref p, .ref p2, .ref ru, .ref cu, .ref br, .ref bt])), (br, .inr (0, [.ref co, .ref oa, .ref lo])), (co, .inr (2, [.ref coc, .ref cob, .int (nI (n - 1))])), (coc, .inl (V.2.2.1, 7, .inl (nIf u.2.2.2.1))), (cob, .inl (V.2.2.1, 7, .inl (nIf u.2.2.2.2.1))), (oa, .inl (V.2.2.1, 7, .inl (nIf u.2.2.1))), (lo, .inr (5, [.ref lor, .int u.1])), (lor, .inl (V.2.2.1, 7, .inl (nIf u.2.1))), (s, .inr (8, [.ref h, .ref sw, .ref sg, .int day])), (sw, .inl (V.2.2.1, 7, .inl w)), (sg, .inl (V.2.2.1, 7, .inl g)), (o, .inr (8, [.ref h, .ref ow_, .ref og_, .int u.2.2.2.2.2.2.2])), (ow_, .inl (V.2.2.1, 7, .inl u.2.2.2.2.2.1)), (og_, .inl (V.2.2.1, 7, .inl u.2.2.2.2.2.2.1)), (h, .inr (4, [.ref hk, .ref hfw, .ref hfg, .ref hwb, .ref hld, .ref hte, .ref hpu, .int (nI n), .int hwa, .int (nI m), .ref hnu, .int hto])), (hk, .inl (V.2.2.1, 7, .inl k))]) := by
  refine Ki.of [some (.ref x0), some (.int (nI kk))] (by decide) (Nat.le_of_ble_eq_true rfl) rfl rfl ?_
  intro Z X E
  have X : gX V Z RX10 cX10_ring 2 ({ frames := 4, cells := 0, slots := 0, locals := 92 }) := X
  refine g_iload_n X dX10_ring_0 rfl ?_
  refine g_if_lt X 10 dX10_ring_1 (by decide) (fun c1_1 => absurd c1_1 (flt (a := kk) (b := 0) (by omega) (by omega) (by omega))) (fun c1_1 => ?_)
  refine g_iload_n X dX10_ring_4 rfl ?_
  refine g_bipush X (7) dX10_ring_5 (by decide) ?_
  refine g_icmp_le X 12 dX10_ring_7 (by decide) (fun c7_2 => ?_) (fun c7_2 => absurd (tle (a := kk) (b := 7) (by omega) (by omega) (by omega)) c7_2)
  refine g_iload_n X dX10_ring_12 rfl ?_
  refine g_aload_n X dX10_ring_13 rfl ?_
  refine g_get X uwX10 0 rfl rfl 2 (by decide) kl_X10_23 rfl rfl gwX10 dX10_ring_14 ?_
  refine g_getN X uwX4 14 rfl rfl 7 (by decide) kl_X10_104 rfl rfl gwX4 dX10_ring_17 ?_
  refine g_icmp_le X 26 dX10_ring_20 (by decide) (fun c20_3 => ?_) (fun c20_3 => absurd (tle (a := kk) (b := n) (by omega) (by omega) (by omega)) c20_3)
  refine g_aload_n X dX10_ring_26 rfl ?_
  refine g_get X uwX10 0 rfl rfl 9 (by decide) kl_X10_67 rfl rfl gwX10 dX10_ring_27 ?_
  refine g_aload_n X dX10_ring_30 rfl ?_
  refine g_get X uwX10 0 rfl rfl 3 (by decide) kl_X10_31 rfl rfl gwX10 dX10_ring_31 ?_
  refine g_aload_n X dX10_ring_34 rfl ?_
  refine g_get X uwX10 0 rfl rfl 4 (by decide) kl_X10_35 rfl rfl gwX10 dX10_ring_35 ?_
  refine g_callVv X (c_X0_seek V br oa co coc cob ch bd mn od lo lor ls ro s sw sg day w g o ow_ og_ oday ow og h hk hfw hfg hwb hld hte hpu hnu n m hwa hto k (by omega) (by omega)) mo_X0_seek kl_X10_182 [1, 2, 3, 4, 5, 6, 7, 8, 9, 10, 11, 12, 13, 14, 15] [0, 1, 2, 3, 4, 5, 6, 7, 8, 9, 10, 11, 12, 13, 14, 15] rfl (by decide +kernel) rfl rfl (fun _ => Nat.le_of_ble_eq_true rfl) 1 0 rfl rfl (As := [.ref s, .ref o]) (st := []) (cs' := (0, 0)) rfl rfl rfl rfl dX10_ring_38 (fun u_4 hp_5 ws_7 hw_6 => ?_)
  obtain ⟨ns_9, nro_10, nod_11, nch_12, nbd_13, tw_14, tg_15, td_16⟩ := u_4
  obtain ⟨rfl, hro_17⟩ : ns_9 = (bestR k day n w (waysR n)).1 ∧ ∀ j, j < n → nro_10 j = (bestR k day n w (waysR n)).2 j := hp_5
  have hw_6x : ws_7 = [(x0, .inr (10, [.ref t, .ref d, .ref h, .ref s, .ref o, .ref p, .ref p2, .ref ru, .ref cu, .ref br, .ref bt])), (br, .inr (0, [.ref co, .ref oa, .ref lo])), (co, .inr (2, [.ref coc, .ref cob, .int (nI (n - 1))])), (coc, .inl (V.2.2.1, 7, .inl (nIf nch_12))), (cob, .inl (V.2.2.1, 7, .inl (nIf nbd_13))), (oa, .inl (V.2.2.1, 7, .inl (nIf nod_11))), (lo, .inr (5, [.ref lor, .int ((bestR k day n w (waysR n)).1)])), (lor, .inl (V.2.2.1, 7, .inl (nIf nro_10))), (s, .inr (8, [.ref h, .ref sw, .ref sg, .int day])), (sw, .inl (V.2.2.1, 7, .inl w)), (sg, .inl (V.2.2.1, 7, .inl g)), (o, .inr (8, [.ref h, .ref ow_, .ref og_, .int td_16])), (ow_, .inl (V.2.2.1, 7, .inl tw_14)), (og_, .inl (V.2.2.1, 7, .inl tg_15)), (h, .inr (4, [.ref hk, .ref hfw, .ref hfg, .ref hwb, .ref hld, .ref hte, .ref hpu, .int (nI n), .int hwa, .int (nI m), .ref hnu, .int hto])), (hk, .inl (V.2.2.1, 7, .inl k))] := hw_6.symm
  clear hw_6; subst hw_6x
  refine g_iload_n X dX10_ring_41 rfl ?_
  refine g_if_ne X 58 dX10_ring_42 (by decide) (fun c42_18 => ?_) (fun c42_18 => absurd c42_18 (tne (a := kk) (b := 0) (by omega) (by omega) (by omega)))
  refine g_aload_n X dX10_ring_58 rfl ?_
  refine g_get X uwX10 0 rfl rfl 9 (by decide) kl_X10_67 rfl rfl gwX10 dX10_ring_59 ?_
  refine g_iload_n X dX10_ring_62 rfl ?_
  refine g_iconst X (1) dX10_ring_63 (by decide) ?_
  refine g_isub X dX10_ring_64 ?_
  refine g_toe (x' := nI (kk - 1)) (nI_sub' rfl rfl (by omega)) ?_
  refine g_callVi X (c_X0_comesAt V br co oa lo lor ((bestR k day n w (waysR n)).1) nro_10 (kk - 1) (by omega)) mo_X0_comesAt kl_X10_194 [1, 6, 7] [0, 1, 0, 0, 0, 0, 2, 3, 0, 0, 0, 0, 0, 0, 0, 0] rfl (by decide +kernel) rfl rfl (fun _ => Nat.le_of_ble_eq_true rfl) 1 0 rfl rfl (As := [.int (nI (kk - 1))]) (st := []) (cs' := (0, 0)) rfl rfl rfl rfl dX10_ring_65 (fun r_23 u_19 hp_20 ws_22 hw_21 => ?_)
  obtain rfl : r_23 = nI (nro_10 (kk - 1)) := hp_20
  have hw_21x : ws_22 = [(x0, .inr (10, [.ref t, .ref d, .ref h, .ref s, .ref o, .ref p, .ref p2, .ref ru, .ref cu, .ref br, .ref bt])), (br, .inr (0, [.ref co, .ref oa, .ref lo])), (co, .inr (2, [.ref coc, .ref cob, .int (nI (n - 1))])), (coc, .inl (V.2.2.1, 7, .inl (nIf nch_12))), (cob, .inl (V.2.2.1, 7, .inl (nIf nbd_13))), (oa, .inl (V.2.2.1, 7, .inl (nIf nod_11))), (lo, .inr (5, [.ref lor, .int ((bestR k day n w (waysR n)).1)])), (lor, .inl (V.2.2.1, 7, .inl (nIf nro_10))), (s, .inr (8, [.ref h, .ref sw, .ref sg, .int day])), (sw, .inl (V.2.2.1, 7, .inl w)), (sg, .inl (V.2.2.1, 7, .inl g)), (o, .inr (8, [.ref h, .ref ow_, .ref og_, .int td_16])), (ow_, .inl (V.2.2.1, 7, .inl tw_14)), (og_, .inl (V.2.2.1, 7, .inl tg_15)), (h, .inr (4, [.ref hk, .ref hfw, .ref hfg, .ref hwb, .ref hld, .ref hte, .ref hpu, .int (nI n), .int hwa, .int (nI m), .ref hnu, .int hto])), (hk, .inl (V.2.2.1, 7, .inl k))] := hw_21.symm
  clear hw_21; subst hw_21x
  exact g_iret X E dX10_ring_68 ⟨(bestR k day n w (waysR n)).1, nro_10, nod_11, nch_12, nbd_13, tw_14, tg_15, td_16⟩ (nI (nro_10 (kk - 1))) (by first | rfl | rw [hro_17 (kk - 1) (by omega)]) rfl

set_option maxHeartbeats 4000000 in
set_option maxRecDepth 100000 in
theorem m_dull (V : gV) (x0 : Nat) (t : Nat) (d : Nat) (h : Nat) (s : Nat) (o : Nat) (p : Nat) (p2 : Nat) (ru : Nat) (cu : Nat) (br : Nat) (bt : Nat) (sw : Nat) (sg : Nat) (day : Int32) (w : Nat → Int32) (hk : Nat) (hfw : Nat) (hfg : Nat) (hwb : Nat) (hld : Nat) (hte : Nat) (hpu : Nat) (hnu : Nat) (n : Nat) (m : Nat) (hwa : Int32) (hto : Int32) (k : Nat → Int32) (hn : n ≤ 7) : Ki V yX10_dull cX10_dull 3 .int ({ frames := 3, cells := 0, slots := 0, locals := 68 }) [.ref x0] [(x0, .inr (10, [.ref t, .ref d, .ref h, .ref s, .ref o, .ref p, .ref p2, .ref ru, .ref cu, .ref br, .ref bt])), (s, .inr (8, [.ref h, .ref sw, .ref sg, .int day])), (sw, .inl (V.2.2.1, 7, .inl w)), (h, .inr (4, [.ref hk, .ref hfw, .ref hfg, .ref hwb, .ref hld, .ref hte, .ref hpu, .int (nI n), .int hwa, .int (nI m), .ref hnu, .int hto])), (hk, .inl (V.2.2.1, 7, .inl k))] (fun (r : Int32) (u : Unit) => r = dullB k day n n w) (fun u => [(x0, .inr (10, [.ref t, .ref d, .ref h, .ref s, .ref o, .ref p, .ref p2, .ref ru, .ref cu, .ref br, .ref bt])), (s, .inr (8, [.ref h, .ref sw, .ref sg, .int day])), (sw, .inl (V.2.2.1, 7, .inl w)), (h, .inr (4, [.ref hk, .ref hfw, .ref hfg, .ref hwb, .ref hld, .ref hte, .ref hpu, .int (nI n), .int hwa, .int (nI m), .ref hnu, .int hto])), (hk, .inl (V.2.2.1, 7, .inl k))]) := by
  refine Ki.of [some (.ref x0), none, none] (by decide) (Nat.le_of_ble_eq_true rfl) rfl rfl ?_
  intro Z X E
  have X : gX V Z RX10 cX10_dull 3 ({ frames := 3, cells := 0, slots := 0, locals := 68 }) := X
  refine g_iconst X (0) dX10_dull_0 (by decide) ?_
  refine g_istore_n X (L' := [some (.ref x0), some (.int 0), none]) dX10_dull_1 (by decide) rfl rfl ?_
  refine g_iconst X (0) dX10_dull_2 (by decide) ?_
  refine g_istore_n X (L' := [some (.ref x0), some (.int 0), some (.int 0)]) dX10_dull_3 (by decide) rfl rfl ?_
  have loop4 : ∀ (d4 c : Nat), c + d4 = n → ∀ (bs : Int32) (h1 : bs = dullB k day n c w), G V Z 3 (0, 0) [(x0, .inr (10, [.ref t, .ref d, .ref h, .ref s, .ref o, .ref p, .ref p2, .ref ru, .ref cu, .ref br, .ref bt])), (s, .inr (8, [.ref h, .ref sw, .ref sg, .int day])), (sw, .inl (V.2.2.1, 7, .inl w)), (h, .inr (4, [.ref hk, .ref hfw, .ref hfg, .ref hwb, .ref hld, .ref hte, .ref hpu, .int (nI n), .int hwa, .int (nI m), .ref hnu, .int hto])), (hk, .inl (V.2.2.1, 7, .inl k))] 4 [some (.ref x0), some (.int bs), some (.int (nI c))] [] := by
    intro d4
    induction d4 with
    | zero =>
      intro c hc bs h1
      refine g_iload_n X dX10_dull_4 rfl ?_
      refine g_aload_n X dX10_dull_5 rfl ?_
      refine g_get X uwX10 0 rfl rfl 2 (by decide) kl_X10_23 rfl rfl gwX10 dX10_dull_6 ?_
      refine g_getN X uwX4 3 rfl rfl 7 (by decide) kl_X10_104 rfl rfl gwX4 dX10_dull_9 ?_
      refine g_icmp_ge X 38 dX10_dull_12 (by decide) (fun c12_1 => ?_) (fun c12_1 => absurd (tge (a := c) (b := n) (by omega) (by omega) (by omega)) c12_1)
      refine g_iload_n X dX10_dull_38 rfl ?_
      exact g_iret X E dX10_dull_39 () bs (by have e : c = n := (by omega); subst e; exact h1) rfl
    | succ d4 ih4 =>
      intro c hc bs h1
      refine g_iload_n X dX10_dull_4 rfl ?_
      refine g_aload_n X dX10_dull_5 rfl ?_
      refine g_get X uwX10 0 rfl rfl 2 (by decide) kl_X10_23 rfl rfl gwX10 dX10_dull_6 ?_
      refine g_getN X uwX4 3 rfl rfl 7 (by decide) kl_X10_104 rfl rfl gwX4 dX10_dull_9 ?_
      refine g_icmp_ge X 38 dX10_dull_12 (by decide) (fun c12_2 => absurd c12_2 (fge (a := c) (b := n) (by omega) (by omega) (by omega))) (fun c12_2 => ?_)
      refine g_aload_n X dX10_dull_15 rfl ?_
      refine g_get X uwX10 0 rfl rfl 3 (by decide) kl_X10_31 rfl rfl gwX10 dX10_dull_16 ?_
      refine g_iload_n X dX10_dull_19 rfl ?_
      refine g_callVi X (c_X8_isDull V s sw sg day w h hk hfw hfg hwb hld hte hpu hnu n m hwa hto k c (by omega) (by omega)) mo_X8_isDull kl_X10_197 [1, 2, 3, 4] [0, 1, 2, 3, 4] rfl (by decide +kernel) rfl rfl (fun _ => Nat.le_of_ble_eq_true rfl) 1 8 rfl rfl (As := [.int (nI c)]) (st := []) (cs' := (0, 0)) rfl rfl rfl rfl dX10_dull_20 (fun r_7 u_3 hp_4 ws_6 hw_5 => ?_)
      obtain rfl : r_7 = dullF k day n w c := hp_4
      have hw_5x : ws_6 = [(x0, .inr (10, [.ref t, .ref d, .ref h, .ref s, .ref o, .ref p, .ref p2, .ref ru, .ref cu, .ref br, .ref bt])), (s, .inr (8, [.ref h, .ref sw, .ref sg, .int day])), (sw, .inl (V.2.2.1, 7, .inl w)), (h, .inr (4, [.ref hk, .ref hfw, .ref hfg, .ref hwb, .ref hld, .ref hte, .ref hpu, .int (nI n), .int hwa, .int (nI m), .ref hnu, .int hto])), (hk, .inl (V.2.2.1, 7, .inl k))] := hw_5.symm
      clear hw_5; subst hw_5x
      refine g_if_eq X 32 dX10_dull_23 (by decide) (fun c23_8 => ?_) (fun c23_8 => ?_)
      · refine g_iinc X (v := nI (c + 1)) (L' := [some (.ref x0), some (.int bs), some (.int (nI (c + 1)))]) dX10_dull_32 rfl (nI_addk (by decide)) (by decide) rfl rfl ?_
        refine g_goto X 4 dX10_dull_35 (by decide) ?_
        exact ih4 (c + 1) (by omega) bs (by rw [dullB, it_s, ← dullB, ← h1]; simp [c23_8])
      · refine g_iload_n X dX10_dull_26 rfl ?_
        refine g_iconst X (1) dX10_dull_27 (by decide) ?_
        refine g_iload_n X dX10_dull_28 rfl ?_
        refine g_ishl X dX10_dull_29 ?_
        refine g_ior X dX10_dull_30 ?_
        refine g_istore_n X (L' := [some (.ref x0), some (.int (bs ||| (1 <<< ((nI c) &&& 31)))), some (.int (nI c))]) dX10_dull_31 (by decide) rfl rfl ?_
        refine g_iinc X (v := nI (c + 1)) (L' := [some (.ref x0), some (.int (bs ||| (1 <<< ((nI c) &&& 31)))), some (.int (nI (c + 1)))]) dX10_dull_32 rfl (nI_addk (by decide)) (by decide) rfl rfl ?_
        refine g_goto X 4 dX10_dull_35 (by decide) ?_
        exact ih4 (c + 1) (by omega) (bs ||| (1 <<< ((nI c) &&& 31))) (by rw [dullB, it_s, ← dullB, ← h1]; simp [c23_8])
  exact loop4 n 0 (by omega) 0 rfl

set_option maxHeartbeats 4000000 in
set_option maxRecDepth 100000 in
theorem m_pairs_bad (V : gV) (x0 : Nat) (t : Nat) (d : Nat) (h : Nat) (s : Nat) (o : Nat) (p : Nat) (p2 : Nat) (ru : Nat) (cu : Nat) (br : Nat) (bt : Nat) (hk : Nat) (hfw : Nat) (hfg : Nat) (hwb : Nat) (hld : Nat) (hte : Nat) (hpu : Nat) (hnu : Nat) (n : Nat) (m : Nat) (hwa : Int32) (hto : Int32) (c : Int32) (hn : n ≤ 7) (hbad : ¬ (c = -1 ∨ okC n c)) : Ki V yX10_pairs cX10_pairs 2 .int ({ frames := 1, cells := 0, slots := 0, locals := 21 }) [.ref x0, .int c] [(x0, .inr (10, [.ref t, .ref d, .ref h, .ref s, .ref o, .ref p, .ref p2, .ref ru, .ref cu, .ref br, .ref bt])), (h, .inr (4, [.ref hk, .ref hfw, .ref hfg, .ref hwb, .ref hld, .ref hte, .ref hpu, .int (nI n), .int hwa, .int (nI m), .ref hnu, .int hto]))] (fun (r : Int32) (u : Unit) => r = -1) (fun u => [(x0, .inr (10, [.ref t, .ref d, .ref h, .ref s, .ref o, .ref p, .ref p2, .ref ru, .ref cu, .ref br, .ref bt])), (h, .inr (4, [.ref hk, .ref hfw, .ref hfg, .ref hwb, .ref hld, .ref hte, .ref hpu, .int (nI n), .int hwa, .int (nI m), .ref hnu, .int hto]))]) := by
  refine Ki.of [some (.ref x0), some (.int c)] (by decide) (Nat.le_of_ble_eq_true rfl) rfl rfl ?_
  intro Z X E
  have X : gX V Z RX10 cX10_pairs 2 ({ frames := 1, cells := 0, slots := 0, locals := 21 }) := X
  refine g_iload_n X dX10_pairs_0 rfl ?_
  refine g_iconst X (-1) dX10_pairs_1 (by decide) ?_
  refine g_icmp_eq X 18 dX10_pairs_2 (by decide) (fun c2_1 => absurd c2_1 (fun z => hbad (Or.inl z))) (fun c2_1 => ?_)
  refine g_aload_n X dX10_pairs_5 rfl ?_
  refine g_get X uwX10 0 rfl rfl 2 (by decide) kl_X10_23 rfl rfl gwX10 dX10_pairs_6 ?_
  refine g_iload_n X dX10_pairs_9 rfl ?_
  refine g_callVi X (c_X4_hasClockG V h hk hfw hfg hwb hld hte hpu hnu n m hwa hto c (by omega)) mo_X4_hasClock kl_X10_113 [1] [0, 1] rfl (by decide +kernel) rfl rfl (fun _ => Nat.le_of_ble_eq_true rfl) 1 4 rfl rfl (As := [.int c]) (st := []) (cs' := (0, 0)) rfl rfl rfl rfl dX10_pairs_10 (fun r_6 u_2 hp_3 ws_5 hw_4 => ?_)
  obtain rfl : r_6 = (if okC n c then 1 else 0) := hp_3
  have hw_4x : ws_5 = [(x0, .inr (10, [.ref t, .ref d, .ref h, .ref s, .ref o, .ref p, .ref p2, .ref ru, .ref cu, .ref br, .ref bt])), (h, .inr (4, [.ref hk, .ref hfw, .ref hfg, .ref hwb, .ref hld, .ref hte, .ref hpu, .int (nI n), .int hwa, .int (nI m), .ref hnu, .int hto]))] := hw_4.symm
  clear hw_4; subst hw_4x
  refine g_if_ne X 18 dX10_pairs_13 (by decide) (fun c13_7 => absurd (by rw [if_neg (fun z => hbad (Or.inr z))]) c13_7) (fun c13_7 => ?_)
  refine g_iconst X (-1) dX10_pairs_16 (by decide) ?_
  exact g_iret X E dX10_pairs_17 () (-1) (by first | rfl | (simp [c2_1, c13_7]; done)) rfl

set_option maxHeartbeats 4000000 in
set_option maxRecDepth 100000 in
theorem m_pairs_sum (V : gV) (x0 : Nat) (t : Nat) (d : Nat) (h : Nat) (s : Nat) (o : Nat) (p : Nat) (p2 : Nat) (ru : Nat) (cu : Nat) (br : Nat) (bt : Nat) (sw : Nat) (sg : Nat) (day : Int32) (w : Nat → Int32) (hk : Nat) (hfw : Nat) (hfg : Nat) (hwb : Nat) (hld : Nat) (hte : Nat) (hpu : Nat) (hnu : Nat) (n : Nat) (m : Nat) (hwa : Int32) (hto : Int32) (bco : Nat) (bcoc : Nat) (bcob : Nat) (bch : Nat → Nat) (bbd : Nat → Nat) (bmn : Nat) (ma : Nat) (mf : Nat → Int32) (blo : Nat) (blor : Nat) (bls : Int32) (lf : Nat → Int32) (hn : n ≤ 7) (h1n : 1 ≤ n) : Ki V yX10_pairs cX10_pairs 2 .int ({ frames := 4, cells := 0, slots := 0, locals := 95 }) [.ref x0, .int (-1)] [(x0, .inr (10, [.ref t, .ref d, .ref h, .ref s, .ref o, .ref p, .ref p2, .ref ru, .ref cu, .ref br, .ref bt])), (bt, .inr (1, [.ref bco, .ref ma, .ref blo])), (bco, .inr (2, [.ref bcoc, .ref bcob, .int (nI bmn)])), (bcoc, .inl (V.2.2.1, 7, .inl (nIf bch))), (bcob, .inl (V.2.2.1, 7, .inl (nIf bbd))), (ma, .inl (V.2.2.1, 7, .inl mf)), (blo, .inr (5, [.ref blor, .int bls])), (blor, .inl (V.2.2.1, 7, .inl lf)), (s, .inr (8, [.ref h, .ref sw, .ref sg, .int day])), (sw, .inl (V.2.2.1, 7, .inl w)), (h, .inr (4, [.ref hk, .ref hfw, .ref hfg, .ref hwb, .ref hld, .ref hte, .ref hpu, .int (nI n), .int hwa, .int (nI m), .ref hnu, .int hto]))] (fun (r : Int32) (u : Int32 × (Nat → Int32) × (Nat → Int32) × (Nat → Nat) × (Nat → Nat)) => r = (bestP n w (waysP n)).1) (fun u => [(x0, .inr (10, [.ref t, .ref d, .ref h, .ref s, .ref o, .ref p, .ref p2, .ref ru, .ref cu, .ref br, .ref bt])), (bt, .inr (1, [.ref bco, .ref ma, .ref blo])), (bco, .inr (2, [.ref bcoc, .ref bcob, .int (nI ((n + n % 2) / 2))])), (bcoc, .inl (V.2.2.1, 7, .inl (nIf u.2.2.2.1))), (bcob, .inl (V.2.2.1, 7, .inl (nIf u.2.2.2.2))), (ma, .inl (V.2.2.1, 7, .inl u.2.2.1)), (blo, .inr (5, [.ref blor, .int u.1])), (blor, .inl (V.2.2.1, 7, .inl u.2.1)), (s, .inr (8, [.ref h, .ref sw, .ref sg, .int day])), (sw, .inl (V.2.2.1, 7, .inl w)), (h, .inr (4, [.ref hk, .ref hfw, .ref hfg, .ref hwb, .ref hld, .ref hte, .ref hpu, .int (nI n), .int hwa, .int (nI m), .ref hnu, .int hto]))]) := by
  refine Ki.of [some (.ref x0), some (.int (-1))] (by decide) (Nat.le_of_ble_eq_true rfl) rfl rfl ?_
  intro Z X E
  have X : gX V Z RX10 cX10_pairs 2 ({ frames := 4, cells := 0, slots := 0, locals := 95 }) := X
  refine g_iload_n X dX10_pairs_0 rfl ?_
  refine g_iconst X (-1) dX10_pairs_1 (by decide) ?_
  refine g_icmp_eq X 18 dX10_pairs_2 (by decide) (fun c2_1 => ?_) (fun c2_1 => absurd rfl c2_1)
  refine g_aload_n X dX10_pairs_18 rfl ?_
  refine g_get X uwX10 0 rfl rfl 10 (by decide) kl_X10_74 rfl rfl gwX10 dX10_pairs_19 ?_
  refine g_aload_n X dX10_pairs_22 rfl ?_
  refine g_get X uwX10 0 rfl rfl 3 (by decide) kl_X10_31 rfl rfl gwX10 dX10_pairs_23 ?_
  refine g_callVv X (c_X1_seek V bt ma bco bcoc bcob bch bbd bmn mf blo blor lf bls s sw sg day w h hk hfw hfg hwb hld hte hpu hnu n m hwa hto (by omega) (by omega)) mo_X1_seek kl_X10_200 [1, 2, 3, 4, 5, 6, 7, 8, 9, 10] [0, 1, 2, 3, 4, 5, 6, 7, 8, 9, 10] rfl (by decide +kernel) rfl rfl (fun _ => Nat.le_of_ble_eq_true rfl) 1 1 rfl rfl (As := [.ref s]) (st := []) (cs' := (0, 0)) rfl rfl rfl rfl dX10_pairs_26 (fun u_2 hp_3 ws_5 hw_4 => ?_)
  obtain ⟨ns_7, nl_8, nm_9, nch_10, nbd_11⟩ := u_2
  obtain ⟨rfl, hnl_12⟩ : ns_7 = (bestP n w (waysP n)).1 ∧ ∀ j, j < n → nl_8 j = (bestP n w (waysP n)).2 j := hp_3
  have hw_4x : ws_5 = [(x0, .inr (10, [.ref t, .ref d, .ref h, .ref s, .ref o, .ref p, .ref p2, .ref ru, .ref cu, .ref br, .ref bt])), (bt, .inr (1, [.ref bco, .ref ma, .ref blo])), (bco, .inr (2, [.ref bcoc, .ref bcob, .int (nI ((n + n % 2) / 2))])), (bcoc, .inl (V.2.2.1, 7, .inl (nIf nch_10))), (bcob, .inl (V.2.2.1, 7, .inl (nIf nbd_11))), (ma, .inl (V.2.2.1, 7, .inl nm_9)), (blo, .inr (5, [.ref blor, .int ((bestP n w (waysP n)).1)])), (blor, .inl (V.2.2.1, 7, .inl nl_8)), (s, .inr (8, [.ref h, .ref sw, .ref sg, .int day])), (sw, .inl (V.2.2.1, 7, .inl w)), (h, .inr (4, [.ref hk, .ref hfw, .ref hfg, .ref hwb, .ref hld, .ref hte, .ref hpu, .int (nI n), .int hwa, .int (nI m), .ref hnu, .int hto]))] := hw_4.symm
  clear hw_4; subst hw_4x
  refine g_iload_n X dX10_pairs_29 rfl ?_
  refine g_iconst X (-1) dX10_pairs_30 (by decide) ?_
  refine g_icmp_ne X 47 dX10_pairs_31 (by decide) (fun c31_13 => absurd rfl c31_13) (fun c31_13 => ?_)
  refine g_aload_n X dX10_pairs_34 rfl ?_
  refine g_get X uwX10 0 rfl rfl 10 (by decide) kl_X10_74 rfl rfl gwX10 dX10_pairs_35 ?_
  refine g_getN X uwX1 1 rfl rfl 2 (by decide) kl_X10_202 rfl rfl gwX1 dX10_pairs_38 ?_
  refine g_getN X uwX5 6 rfl rfl 1 (by decide) kl_X10_189 rfl rfl gwX5 dX10_pairs_41 ?_
  refine g_goto X 55 dX10_pairs_44 (by decide) ?_
  exact g_iret X E dX10_pairs_55 ⟨(bestP n w (waysP n)).1, nl_8, nm_9, nch_10, nbd_11⟩ ((bestP n w (waysP n)).1) (by first | rfl | exact hnl_12 c hc) rfl

set_option maxHeartbeats 4000000 in
set_option maxRecDepth 100000 in
theorem m_pairs_c (V : gV) (x0 : Nat) (t : Nat) (d : Nat) (h : Nat) (s : Nat) (o : Nat) (p : Nat) (p2 : Nat) (ru : Nat) (cu : Nat) (br : Nat) (bt : Nat) (sw : Nat) (sg : Nat) (day : Int32) (w : Nat → Int32) (hk : Nat) (hfw : Nat) (hfg : Nat) (hwb : Nat) (hld : Nat) (hte : Nat) (hpu : Nat) (hnu : Nat) (n : Nat) (m : Nat) (hwa : Int32) (hto : Int32) (bco : Nat) (bcoc : Nat) (bcob : Nat) (bch : Nat → Nat) (bbd : Nat → Nat) (bmn : Nat) (ma : Nat) (mf : Nat → Int32) (blo : Nat) (blor : Nat) (bls : Int32) (lf : Nat → Int32) (c : Nat) (hn : n ≤ 7) (h1n : 1 ≤ n) (hc : c < n) : Ki V yX10_pairs cX10_pairs 2 .int ({ frames := 4, cells := 0, slots := 0, locals := 95 }) [.ref x0, .int (nI c)] [(x0, .inr (10, [.ref t, .ref d, .ref h, .ref s, .ref o, .ref p, .ref p2, .ref ru, .ref cu, .ref br, .ref bt])), (bt, .inr (1, [.ref bco, .ref ma, .ref blo])), (bco, .inr (2, [.ref bcoc, .ref bcob, .int (nI bmn)])), (bcoc, .inl (V.2.2.1, 7, .inl (nIf bch))), (bcob, .inl (V.2.2.1, 7, .inl (nIf bbd))), (ma, .inl (V.2.2.1, 7, .inl mf)), (blo, .inr (5, [.ref blor, .int bls])), (blor, .inl (V.2.2.1, 7, .inl lf)), (s, .inr (8, [.ref h, .ref sw, .ref sg, .int day])), (sw, .inl (V.2.2.1, 7, .inl w)), (h, .inr (4, [.ref hk, .ref hfw, .ref hfg, .ref hwb, .ref hld, .ref hte, .ref hpu, .int (nI n), .int hwa, .int (nI m), .ref hnu, .int hto]))] (fun (r : Int32) (u : Int32 × (Nat → Int32) × (Nat → Int32) × (Nat → Nat) × (Nat → Nat)) => r = (bestP n w (waysP n)).2 c) (fun u => [(x0, .inr (10, [.ref t, .ref d, .ref h, .ref s, .ref o, .ref p, .ref p2, .ref ru, .ref cu, .ref br, .ref bt])), (bt, .inr (1, [.ref bco, .ref ma, .ref blo])), (bco, .inr (2, [.ref bcoc, .ref bcob, .int (nI ((n + n % 2) / 2))])), (bcoc, .inl (V.2.2.1, 7, .inl (nIf u.2.2.2.1))), (bcob, .inl (V.2.2.1, 7, .inl (nIf u.2.2.2.2))), (ma, .inl (V.2.2.1, 7, .inl u.2.2.1)), (blo, .inr (5, [.ref blor, .int u.1])), (blor, .inl (V.2.2.1, 7, .inl u.2.1)), (s, .inr (8, [.ref h, .ref sw, .ref sg, .int day])), (sw, .inl (V.2.2.1, 7, .inl w)), (h, .inr (4, [.ref hk, .ref hfw, .ref hfg, .ref hwb, .ref hld, .ref hte, .ref hpu, .int (nI n), .int hwa, .int (nI m), .ref hnu, .int hto]))]) := by
  refine Ki.of [some (.ref x0), some (.int (nI c))] (by decide) (Nat.le_of_ble_eq_true rfl) rfl rfl ?_
  intro Z X E
  have X : gX V Z RX10 cX10_pairs 2 ({ frames := 4, cells := 0, slots := 0, locals := 95 }) := X
  refine g_iload_n X dX10_pairs_0 rfl ?_
  refine g_iconst X (-1) dX10_pairs_1 (by decide) ?_
  refine g_icmp_eq X 18 dX10_pairs_2 (by decide) (fun c2_1 => absurd c2_1 (nI_nm1 (by omega))) (fun c2_1 => ?_)
  refine g_aload_n X dX10_pairs_5 rfl ?_
  refine g_get X uwX10 0 rfl rfl 2 (by decide) kl_X10_23 rfl rfl gwX10 dX10_pairs_6 ?_
  refine g_iload_n X dX10_pairs_9 rfl ?_
  refine g_callVi X (c_X4_hasClockG V h hk hfw hfg hwb hld hte hpu hnu n m hwa hto (nI c) (by omega)) mo_X4_hasClock kl_X10_113 [10] [0, 0, 0, 0, 0, 0, 0, 0, 0, 0, 1] rfl (by decide +kernel) rfl rfl (fun _ => Nat.le_of_ble_eq_true rfl) 10 4 rfl rfl (As := [.int (nI c)]) (st := []) (cs' := (0, 0)) rfl rfl rfl rfl dX10_pairs_10 (fun r_6 u_2 hp_3 ws_5 hw_4 => ?_)
  obtain rfl : r_6 = (if okC n (nI c) then 1 else 0) := hp_3
  have hw_4x : ws_5 = [(x0, .inr (10, [.ref t, .ref d, .ref h, .ref s, .ref o, .ref p, .ref p2, .ref ru, .ref cu, .ref br, .ref bt])), (bt, .inr (1, [.ref bco, .ref ma, .ref blo])), (bco, .inr (2, [.ref bcoc, .ref bcob, .int (nI bmn)])), (bcoc, .inl (V.2.2.1, 7, .inl (nIf bch))), (bcob, .inl (V.2.2.1, 7, .inl (nIf bbd))), (ma, .inl (V.2.2.1, 7, .inl mf)), (blo, .inr (5, [.ref blor, .int bls])), (blor, .inl (V.2.2.1, 7, .inl lf)), (s, .inr (8, [.ref h, .ref sw, .ref sg, .int day])), (sw, .inl (V.2.2.1, 7, .inl w)), (h, .inr (4, [.ref hk, .ref hfw, .ref hfg, .ref hwb, .ref hld, .ref hte, .ref hpu, .int (nI n), .int hwa, .int (nI m), .ref hnu, .int hto]))] := hw_4.symm
  clear hw_4; subst hw_4x
  refine g_if_ne X 18 dX10_pairs_13 (by decide) (fun c13_7 => ?_) (fun c13_7 => absurd c13_7 (by rw [if_pos (okC_nI hc (by omega))]; decide))
  refine g_aload_n X dX10_pairs_18 rfl ?_
  refine g_get X uwX10 0 rfl rfl 10 (by decide) kl_X10_74 rfl rfl gwX10 dX10_pairs_19 ?_
  refine g_aload_n X dX10_pairs_22 rfl ?_
  refine g_get X uwX10 0 rfl rfl 3 (by decide) kl_X10_31 rfl rfl gwX10 dX10_pairs_23 ?_
  refine g_callVv X (c_X1_seek V bt ma bco bcoc bcob bch bbd bmn mf blo blor lf bls s sw sg day w h hk hfw hfg hwb hld hte hpu hnu n m hwa hto (by omega) (by omega)) mo_X1_seek kl_X10_200 [1, 2, 3, 4, 5, 6, 7, 8, 9, 10] [0, 1, 2, 3, 4, 5, 6, 7, 8, 9, 10] rfl (by decide +kernel) rfl rfl (fun _ => Nat.le_of_ble_eq_true rfl) 1 1 rfl rfl (As := [.ref s]) (st := []) (cs' := (0, 0)) rfl rfl rfl rfl dX10_pairs_26 (fun u_8 hp_9 ws_11 hw_10 => ?_)
  obtain ⟨ns_13, nl_14, nm_15, nch_16, nbd_17⟩ := u_8
  obtain ⟨rfl, hnl_18⟩ : ns_13 = (bestP n w (waysP n)).1 ∧ ∀ j, j < n → nl_14 j = (bestP n w (waysP n)).2 j := hp_9
  have hw_10x : ws_11 = [(x0, .inr (10, [.ref t, .ref d, .ref h, .ref s, .ref o, .ref p, .ref p2, .ref ru, .ref cu, .ref br, .ref bt])), (bt, .inr (1, [.ref bco, .ref ma, .ref blo])), (bco, .inr (2, [.ref bcoc, .ref bcob, .int (nI ((n + n % 2) / 2))])), (bcoc, .inl (V.2.2.1, 7, .inl (nIf nch_16))), (bcob, .inl (V.2.2.1, 7, .inl (nIf nbd_17))), (ma, .inl (V.2.2.1, 7, .inl nm_15)), (blo, .inr (5, [.ref blor, .int ((bestP n w (waysP n)).1)])), (blor, .inl (V.2.2.1, 7, .inl nl_14)), (s, .inr (8, [.ref h, .ref sw, .ref sg, .int day])), (sw, .inl (V.2.2.1, 7, .inl w)), (h, .inr (4, [.ref hk, .ref hfw, .ref hfg, .ref hwb, .ref hld, .ref hte, .ref hpu, .int (nI n), .int hwa, .int (nI m), .ref hnu, .int hto]))] := hw_10.symm
  clear hw_10; subst hw_10x
  refine g_iload_n X dX10_pairs_29 rfl ?_
  refine g_iconst X (-1) dX10_pairs_30 (by decide) ?_
  refine g_icmp_ne X 47 dX10_pairs_31 (by decide) (fun c31_19 => ?_) (fun c31_19 => absurd c31_19 (nI_nm1 (by omega)))
  refine g_aload_n X dX10_pairs_47 rfl ?_
  refine g_get X uwX10 0 rfl rfl 10 (by decide) kl_X10_74 rfl rfl gwX10 dX10_pairs_48 ?_
  refine g_iload_n X dX10_pairs_51 rfl ?_
  refine g_callVi X (c_X1_mateOf V bt bco ma blo blor ((bestP n w (waysP n)).1) nl_14 c (by omega)) mo_X1_mateOf kl_X10_203 [1, 6, 7] [0, 1, 0, 0, 0, 0, 2, 3, 0, 0, 0] rfl (by decide +kernel) rfl rfl (fun _ => Nat.le_of_ble_eq_true rfl) 1 1 rfl rfl (As := [.int (nI c)]) (st := []) (cs' := (0, 0)) rfl rfl rfl rfl dX10_pairs_52 (fun r_24 u_20 hp_21 ws_23 hw_22 => ?_)
  obtain rfl : r_24 = nl_14 c := hp_21
  have hw_22x : ws_23 = [(x0, .inr (10, [.ref t, .ref d, .ref h, .ref s, .ref o, .ref p, .ref p2, .ref ru, .ref cu, .ref br, .ref bt])), (bt, .inr (1, [.ref bco, .ref ma, .ref blo])), (bco, .inr (2, [.ref bcoc, .ref bcob, .int (nI ((n + n % 2) / 2))])), (bcoc, .inl (V.2.2.1, 7, .inl (nIf nch_16))), (bcob, .inl (V.2.2.1, 7, .inl (nIf nbd_17))), (ma, .inl (V.2.2.1, 7, .inl nm_15)), (blo, .inr (5, [.ref blor, .int ((bestP n w (waysP n)).1)])), (blor, .inl (V.2.2.1, 7, .inl nl_14)), (s, .inr (8, [.ref h, .ref sw, .ref sg, .int day])), (sw, .inl (V.2.2.1, 7, .inl w)), (h, .inr (4, [.ref hk, .ref hfw, .ref hfg, .ref hwb, .ref hld, .ref hte, .ref hpu, .int (nI n), .int hwa, .int (nI m), .ref hnu, .int hto]))] := hw_22.symm
  clear hw_22; subst hw_22x
  exact g_iret X E dX10_pairs_55 ⟨(bestP n w (waysP n)).1, nl_14, nm_15, nch_16, nbd_17⟩ (nl_14 c) (by first | rfl | exact hnl_18 c hc) rfl

set_option maxHeartbeats 4000000 in
set_option maxRecDepth 100000 in
theorem m_oils_bad (V : gV) (x0 : Nat) (t : Nat) (d : Nat) (h : Nat) (s : Nat) (o : Nat) (p : Nat) (p2 : Nat) (ru : Nat) (cu : Nat) (br : Nat) (bt : Nat) (hk : Nat) (hfw : Nat) (hfg : Nat) (hwb : Nat) (hld : Nat) (hte : Nat) (hpu : Nat) (hnu : Nat) (n : Nat) (m : Nat) (hwa : Int32) (hto : Int32) (c : Int32) (v : Int32) (x : Int32) (hn : n ≤ 7) (hbad : ¬ (okC n c ∧ ¬ v < 1 ∧ ¬ 30 < v ∧ ¬ x < 0 ∧ x ≤ 100)) : Ki V yX10_oils cX10_oils 6 .int ({ frames := 1, cells := 0, slots := 0, locals := 21 }) [.ref x0, .int c, .int v, .int x] [(x0, .inr (10, [.ref t, .ref d, .ref h, .ref s, .ref o, .ref p, .ref p2, .ref ru, .ref cu, .ref br, .ref bt])), (h, .inr (4, [.ref hk, .ref hfw, .ref hfg, .ref hwb, .ref hld, .ref hte, .ref hpu, .int (nI n), .int hwa, .int (nI m), .ref hnu, .int hto]))] (fun (r : Int32) (u : Unit) => r = -1) (fun u => [(x0, .inr (10, [.ref t, .ref d, .ref h, .ref s, .ref o, .ref p, .ref p2, .ref ru, .ref cu, .ref br, .ref bt])), (h, .inr (4, [.ref hk, .ref hfw, .ref hfg, .ref hwb, .ref hld, .ref hte, .ref hpu, .int (nI n), .int hwa, .int (nI m), .ref hnu, .int hto]))]) := by
  refine Ki.of [some (.ref x0), some (.int c), some (.int v), some (.int x), none, none] (by decide) (Nat.le_of_ble_eq_true rfl) rfl rfl ?_
  intro Z X E
  have X : gX V Z RX10 cX10_oils 6 ({ frames := 1, cells := 0, slots := 0, locals := 21 }) := X
  refine g_aload_n X dX10_oils_0 rfl ?_
  refine g_get X uwX10 0 rfl rfl 2 (by decide) kl_X10_23 rfl rfl gwX10 dX10_oils_1 ?_
  refine g_iload_n X dX10_oils_4 rfl ?_
  refine g_callVi X (c_X4_hasClockG V h hk hfw hfg hwb hld hte hpu hnu n m hwa hto c (by omega)) mo_X4_hasClock kl_X10_113 [1] [0, 1] rfl (by decide +kernel) rfl rfl (fun _ => Nat.le_of_ble_eq_true rfl) 1 4 rfl rfl (As := [.int c]) (st := []) (cs' := (0, 0)) rfl rfl rfl rfl dX10_oils_5 (fun r_5 u_1 hp_2 ws_4 hw_3 => ?_)
  obtain rfl : r_5 = (if okC n c then 1 else 0) := hp_2
  have hw_3x : ws_4 = [(x0, .inr (10, [.ref t, .ref d, .ref h, .ref s, .ref o, .ref p, .ref p2, .ref ru, .ref cu, .ref br, .ref bt])), (h, .inr (4, [.ref hk, .ref hfw, .ref hfg, .ref hwb, .ref hld, .ref hte, .ref hpu, .int (nI n), .int hwa, .int (nI m), .ref hnu, .int hto]))] := hw_3.symm
  clear hw_3; subst hw_3x
  refine g_if_eq X 32 dX10_oils_8 (by decide) (fun c8_6 => ?_) (fun c8_6 => ?_)
  · refine g_iconst X (-1) dX10_oils_32 (by decide) ?_
    exact g_iret X E dX10_oils_33 () (-1) (by first | rfl | (simp [c8_6]; done)) rfl
  · refine g_iload_n X dX10_oils_11 rfl ?_
    refine g_iconst X (1) dX10_oils_12 (by decide) ?_
    refine g_icmp_lt X 32 dX10_oils_13 (by decide) (fun c13_7 => ?_) (fun c13_7 => ?_)
    · have c13_7d := Int32.not_le.mpr c13_7
      refine g_iconst X (-1) dX10_oils_32 (by decide) ?_
      exact g_iret X E dX10_oils_33 () (-1) (by first | rfl | (simp [c8_6, c13_7, c13_7d]; done)) rfl
    · have c13_7d := Int32.not_lt.mp c13_7
      refine g_iload_n X dX10_oils_16 rfl ?_
      refine g_bipush X (30) dX10_oils_17 (by decide) ?_
      refine g_icmp_gt X 32 dX10_oils_19 (by decide) (fun c19_8 => ?_) (fun c19_8 => ?_)
      · have c19_8d := Int32.not_le.mpr c19_8
        refine g_iconst X (-1) dX10_oils_32 (by decide) ?_
        exact g_iret X E dX10_oils_33 () (-1) (by first | rfl | (simp [c8_6, c13_7, c13_7d, c19_8, c19_8d]; done)) rfl
      · have c19_8d := Int32.not_lt.mp c19_8
        refine g_iload_n X dX10_oils_22 rfl ?_
        refine g_if_lt X 32 dX10_oils_23 (by decide) (fun c23_9 => ?_) (fun c23_9 => ?_)
        · have c23_9d := Int32.not_le.mpr c23_9
          refine g_iconst X (-1) dX10_oils_32 (by decide) ?_
          exact g_iret X E dX10_oils_33 () (-1) (by first | rfl | (simp [c8_6, c13_7, c13_7d, c19_8, c19_8d, c23_9, c23_9d]; done)) rfl
        · have c23_9d := Int32.not_lt.mp c23_9
          refine g_iload_n X dX10_oils_26 rfl ?_
          refine g_bipush X (100) dX10_oils_27 (by decide) ?_
          refine g_icmp_le X 34 dX10_oils_29 (by decide) (fun c29_10 => ?_) (fun c29_10 => ?_)
          · have c29_10d := Int32.not_lt.mpr c29_10
            exact absurd ⟨(by have z := c8_6; by_cases q9 : okC n c; exact q9; rw [if_neg q9] at z; exact absurd rfl z), c13_7, c19_8, c23_9, c29_10⟩ hbad
          · have c29_10d := Int32.not_le.mp c29_10
            refine g_iconst X (-1) dX10_oils_32 (by decide) ?_
            exact g_iret X E dX10_oils_33 () (-1) (by first | rfl | (simp [c8_6, c13_7, c13_7d, c19_8, c19_8d, c23_9, c23_9d, c29_10, c29_10d]; done)) rfl

set_option maxHeartbeats 4000000 in
set_option maxRecDepth 100000 in
theorem m_oils_ok (V : gV) (x0 : Nat) (t : Nat) (d : Nat) (h : Nat) (s : Nat) (o : Nat) (p : Nat) (p2 : Nat) (ru : Nat) (cu : Nat) (br : Nat) (bt : Nat) (sw : Nat) (sg : Nat) (day : Int32) (w : Nat → Int32) (g : Nat → Int32) (ow_ : Nat) (og_ : Nat) (oday : Int32) (ow : Nat → Int32) (og : Nat → Int32) (hk : Nat) (hfw : Nat) (hfg : Nat) (hwb : Nat) (hld : Nat) (hte : Nat) (hpu : Nat) (hnu : Nat) (n : Nat) (m : Nat) (hwa : Int32) (hto : Int32) (k : Nat → Int32) (wb : Nat → Int32) (ld : Nat → Nat) (te : Nat → Nat) (pu : Nat → Nat) (c : Nat) (v : Nat) (x : Int32) (hn : n ≤ 7) (h1n : 1 ≤ n) (hm : m ≤ 9) (ht : ∀ i, i < m → te i < n ∧ pu i < n) (hc : c < n) (hv : 1 ≤ v ∧ v ≤ 30) (h1 : ¬ x < 0) (h2 : x ≤ 100) : Ki V yX10_oils cX10_oils 6 .int ({ frames := 6, cells := 0, slots := 0, locals := 135 }) [.ref x0, .int (nI c), .int (nI v), .int x] [(x0, .inr (10, [.ref t, .ref d, .ref h, .ref s, .ref o, .ref p, .ref p2, .ref ru, .ref cu, .ref br, .ref bt])), (s, .inr (8, [.ref h, .ref sw, .ref sg, .int day])), (sw, .inl (V.2.2.1, 7, .inl w)), (sg, .inl (V.2.2.1, 7, .inl g)), (o, .inr (8, [.ref h, .ref ow_, .ref og_, .int oday])), (ow_, .inl (V.2.2.1, 7, .inl ow)), (og_, .inl (V.2.2.1, 7, .inl og)), (h, .inr (4, [.ref hk, .ref hfw, .ref hfg, .ref hwb, .ref hld, .ref hte, .ref hpu, .int (nI n), .int hwa, .int (nI m), .ref hnu, .int hto])), (hk, .inl (V.2.2.1, 7, .inl k)), (hwb, .inl (V.2.2.1, 7, .inl wb)), (hld, .inl (V.2.2.1, 9, .inl (nIf ld))), (hte, .inl (V.2.2.1, 9, .inl (nIf te))), (hpu, .inl (V.2.2.1, 9, .inl (nIf pu)))] (fun (r : Int32) (u : (Nat → Int32) × (Nat → Int32) × Int32) => r = oilsF k wb ld te pu n m g day w c v x) (fun u => [(x0, .inr (10, [.ref t, .ref d, .ref h, .ref s, .ref o, .ref p, .ref p2, .ref ru, .ref cu, .ref br, .ref bt])), (s, .inr (8, [.ref h, .ref sw, .ref sg, .int day])), (sw, .inl (V.2.2.1, 7, .inl w)), (sg, .inl (V.2.2.1, 7, .inl g)), (o, .inr (8, [.ref h, .ref ow_, .ref og_, .int u.2.2])), (ow_, .inl (V.2.2.1, 7, .inl u.1)), (og_, .inl (V.2.2.1, 7, .inl u.2.1)), (h, .inr (4, [.ref hk, .ref hfw, .ref hfg, .ref hwb, .ref hld, .ref hte, .ref hpu, .int (nI n), .int hwa, .int (nI m), .ref hnu, .int hto])), (hk, .inl (V.2.2.1, 7, .inl k)), (hwb, .inl (V.2.2.1, 7, .inl wb)), (hld, .inl (V.2.2.1, 9, .inl (nIf ld))), (hte, .inl (V.2.2.1, 9, .inl (nIf te))), (hpu, .inl (V.2.2.1, 9, .inl (nIf pu)))]) := by
  refine Ki.of [some (.ref x0), some (.int (nI c)), some (.int (nI v)), some (.int x), none, none] (by decide) (Nat.le_of_ble_eq_true rfl) rfl rfl ?_
  intro Z X E
  have X : gX V Z RX10 cX10_oils 6 ({ frames := 6, cells := 0, slots := 0, locals := 135 }) := X
  refine g_aload_n X dX10_oils_0 rfl ?_
  refine g_get X uwX10 0 rfl rfl 2 (by decide) kl_X10_23 rfl rfl gwX10 dX10_oils_1 ?_
  refine g_iload_n X dX10_oils_4 rfl ?_
  refine g_callVi X (c_X4_hasClockG V h hk hfw hfg hwb hld hte hpu hnu n m hwa hto (nI c) (by omega)) mo_X4_hasClock kl_X10_113 [7] [0, 0, 0, 0, 0, 0, 0, 1, 0, 0, 0, 0, 0] rfl (by decide +kernel) rfl rfl (fun _ => Nat.le_of_ble_eq_true rfl) 7 4 rfl rfl (As := [.int (nI c)]) (st := []) (cs' := (0, 0)) rfl rfl rfl rfl dX10_oils_5 (fun r_5 u_1 hp_2 ws_4 hw_3 => ?_)
  obtain rfl : r_5 = (if okC n (nI c) then 1 else 0) := hp_2
  have hw_3x : ws_4 = [(x0, .inr (10, [.ref t, .ref d, .ref h, .ref s, .ref o, .ref p, .ref p2, .ref ru, .ref cu, .ref br, .ref bt])), (s, .inr (8, [.ref h, .ref sw, .ref sg, .int day])), (sw, .inl (V.2.2.1, 7, .inl w)), (sg, .inl (V.2.2.1, 7, .inl g)), (o, .inr (8, [.ref h, .ref ow_, .ref og_, .int oday])), (ow_, .inl (V.2.2.1, 7, .inl ow)), (og_, .inl (V.2.2.1, 7, .inl og)), (h, .inr (4, [.ref hk, .ref hfw, .ref hfg, .ref hwb, .ref hld, .ref hte, .ref hpu, .int (nI n), .int hwa, .int (nI m), .ref hnu, .int hto])), (hk, .inl (V.2.2.1, 7, .inl k)), (hwb, .inl (V.2.2.1, 7, .inl wb)), (hld, .inl (V.2.2.1, 9, .inl (nIf ld))), (hte, .inl (V.2.2.1, 9, .inl (nIf te))), (hpu, .inl (V.2.2.1, 9, .inl (nIf pu)))] := hw_3.symm
  clear hw_3; subst hw_3x
  refine g_if_eq X 32 dX10_oils_8 (by decide) (fun c8_6 => absurd c8_6 (by rw [if_pos (okC_nI hc (by omega))]; decide)) (fun c8_6 => ?_)
  refine g_iload_n X dX10_oils_11 rfl ?_
  refine g_iconst X (1) dX10_oils_12 (by decide) ?_
  refine g_icmp_lt X 32 dX10_oils_13 (by decide) (fun c13_7 => absurd c13_7 (flt (a := v) (b := 1) (by omega) (by omega) (by omega))) (fun c13_7 => ?_)
  refine g_iload_n X dX10_oils_16 rfl ?_
  refine g_bipush X (30) dX10_oils_17 (by decide) ?_
  refine g_icmp_gt X 32 dX10_oils_19 (by decide) (fun c19_8 => absurd c19_8 (fgt (a := v) (b := 30) (by omega) (by omega) (by omega))) (fun c19_8 => ?_)
  refine g_iload_n X dX10_oils_22 rfl ?_
  refine g_if_lt X 32 dX10_oils_23 (by decide) (fun c23_9 => absurd c23_9 h1) (fun c23_9 => ?_)
  refine g_iload_n X dX10_oils_26 rfl ?_
  refine g_bipush X (100) dX10_oils_27 (by decide) ?_
  refine g_icmp_le X 34 dX10_oils_29 (by decide) (fun c29_10 => ?_) (fun c29_10 => absurd h2 c29_10)
  refine g_iconst X (0) dX10_oils_34 (by decide) ?_
  refine g_istore X (L' := [some (.ref x0), some (.int (nI c)), some (.int (nI v)), some (.int x), some (.int 0), none]) dX10_oils_35 (by decide) rfl rfl ?_
  have loop37_11 : ∀ (d37 t_ : Nat), t_ + d37 = 11 → ∀ (tw : Nat → Int32) (tg : Nat → Int32) (td : Int32) (h5 : fst1 (oilsP k wb ld te pu n m g day w c v x) t_ = none), G V Z 6 (0, 0) [(x0, .inr (10, [.ref t, .ref d, .ref h, .ref s, .ref o, .ref p, .ref p2, .ref ru, .ref cu, .ref br, .ref bt])), (s, .inr (8, [.ref h, .ref sw, .ref sg, .int day])), (sw, .inl (V.2.2.1, 7, .inl w)), (sg, .inl (V.2.2.1, 7, .inl g)), (o, .inr (8, [.ref h, .ref ow_, .ref og_, .int td])), (ow_, .inl (V.2.2.1, 7, .inl tw)), (og_, .inl (V.2.2.1, 7, .inl tg)), (h, .inr (4, [.ref hk, .ref hfw, .ref hfg, .ref hwb, .ref hld, .ref hte, .ref hpu, .int (nI n), .int hwa, .int (nI m), .ref hnu, .int hto])), (hk, .inl (V.2.2.1, 7, .inl k)), (hwb, .inl (V.2.2.1, 7, .inl wb)), (hld, .inl (V.2.2.1, 9, .inl (nIf ld))), (hte, .inl (V.2.2.1, 9, .inl (nIf te))), (hpu, .inl (V.2.2.1, 9, .inl (nIf pu)))] 37 [some (.ref x0), some (.int (nI c)), some (.int (nI v)), some (.int x), some (.int (nI t_)), none] [] := by
    intro d37
    induction d37 with
    | zero =>
      intro t_ ht_ tw tg td h5
      refine g_iload X dX10_oils_37 rfl ?_
      refine g_bipush X (10) dX10_oils_39 (by decide) ?_
      refine g_icmp_gt X 111 dX10_oils_41 (by decide) (fun c41_12 => ?_) (fun c41_12 => absurd (tgt (a := t_) (b := 10) (by omega) (by omega) (by omega)) c41_12)
      refine g_bipush X (-4) dX10_oils_111 (by decide) ?_
      exact g_iret X E dX10_oils_113 ⟨tw, tg, td⟩ (-4) (by have e : t_ = 11 := (by omega); subst e; rw [oilsF, h5]; rfl) rfl
    | succ d37 ih37 =>
      intro t_ ht_ tw tg td h5
      refine g_iload X dX10_oils_37 rfl ?_
      refine g_bipush X (10) dX10_oils_39 (by decide) ?_
      refine g_icmp_gt X 111 dX10_oils_41 (by decide) (fun c41_13 => absurd c41_13 (fgt (a := t_) (b := 10) (by omega) (by omega) (by omega))) (fun c41_13 => ?_)
      refine g_aload_n X dX10_oils_44 rfl ?_
      refine g_get X uwX10 0 rfl rfl 4 (by decide) kl_X10_35 rfl rfl gwX10 dX10_oils_45 ?_
      refine g_aload_n X dX10_oils_48 rfl ?_
      refine g_get X uwX10 0 rfl rfl 3 (by decide) kl_X10_31 rfl rfl gwX10 dX10_oils_49 ?_
      refine g_callVv X (c_X8_takeFrom V o ow_ og_ td tw tg h s sw sg h day w g) mo_X8_takeFrom kl_X10_166 [4, 5, 6, 1, 2, 3] [0, 4, 5, 6, 1, 2, 3, 0, 0, 0, 0, 0, 0] rfl (by decide +kernel) rfl rfl (fun _ => Nat.le_of_ble_eq_true rfl) 4 8 rfl rfl (As := [.ref s]) (st := []) (cs' := (0, 0)) rfl rfl rfl rfl dX10_oils_52 (fun u_14 hp_15 ws_17 hw_16 => ?_)
      have hw_16x : ws_17 = [(x0, .inr (10, [.ref t, .ref d, .ref h, .ref s, .ref o, .ref p, .ref p2, .ref ru, .ref cu, .ref br, .ref bt])), (s, .inr (8, [.ref h, .ref sw, .ref sg, .int day])), (sw, .inl (V.2.2.1, 7, .inl w)), (sg, .inl (V.2.2.1, 7, .inl g)), (o, .inr (8, [.ref h, .ref ow_, .ref og_, .int day])), (ow_, .inl (V.2.2.1, 7, .inl w)), (og_, .inl (V.2.2.1, 7, .inl g)), (h, .inr (4, [.ref hk, .ref hfw, .ref hfg, .ref hwb, .ref hld, .ref hte, .ref hpu, .int (nI n), .int hwa, .int (nI m), .ref hnu, .int hto])), (hk, .inl (V.2.2.1, 7, .inl k)), (hwb, .inl (V.2.2.1, 7, .inl wb)), (hld, .inl (V.2.2.1, 9, .inl (nIf ld))), (hte, .inl (V.2.2.1, 9, .inl (nIf te))), (hpu, .inl (V.2.2.1, 9, .inl (nIf pu)))] := hw_16.symm
      clear hw_16; subst hw_16x
      refine g_iconst X (0) dX10_oils_55 (by decide) ?_
      refine g_istore X (L' := [some (.ref x0), some (.int (nI c)), some (.int (nI v)), some (.int x), some (.int (nI t_)), some (.int 0)]) dX10_oils_56 (by decide) rfl rfl ?_
      have loop58_19 : ∀ (d58 i : Nat), i + d58 = t_ → ∀ (g1 : Nat → Int32) (h6 : g1 = goilF c i g), G V Z 6 (0, 0) [(x0, .inr (10, [.ref t, .ref d, .ref h, .ref s, .ref o, .ref p, .ref p2, .ref ru, .ref cu, .ref br, .ref bt])), (s, .inr (8, [.ref h, .ref sw, .ref sg, .int day])), (sw, .inl (V.2.2.1, 7, .inl w)), (sg, .inl (V.2.2.1, 7, .inl g)), (o, .inr (8, [.ref h, .ref ow_, .ref og_, .int day])), (ow_, .inl (V.2.2.1, 7, .inl w)), (og_, .inl (V.2.2.1, 7, .inl g1)), (h, .inr (4, [.ref hk, .ref hfw, .ref hfg, .ref hwb, .ref hld, .ref hte, .ref hpu, .int (nI n), .int hwa, .int (nI m), .ref hnu, .int hto])), (hk, .inl (V.2.2.1, 7, .inl k)), (hwb, .inl (V.2.2.1, 7, .inl wb)), (hld, .inl (V.2.2.1, 9, .inl (nIf ld))), (hte, .inl (V.2.2.1, 9, .inl (nIf te))), (hpu, .inl (V.2.2.1, 9, .inl (nIf pu)))] 58 [some (.ref x0), some (.int (nI c)), some (.int (nI v)), some (.int x), some (.int (nI t_)), some (.int (nI i))] [] := by
        intro d58
        induction d58 with
        | zero =>
          intro i hi g1 h6
          refine g_iload X dX10_oils_58 rfl ?_
          refine g_iload X dX10_oils_60 rfl ?_
          refine g_icmp_ge X 79 dX10_oils_62 (by decide) (fun c62_20 => ?_) (fun c62_20 => absurd (tge (a := i) (b := t_) (by omega) (by omega) (by omega)) c62_20)
          refine g_aload_n X dX10_oils_79 rfl ?_
          refine g_get X uwX10 0 rfl rfl 4 (by decide) kl_X10_35 rfl rfl gwX10 dX10_oils_80 ?_
          refine g_iload_n X dX10_oils_83 rfl ?_
          refine g_callVv X (c_X8_passDays V o ow_ og_ day w g1 h hk hfw hfg hwb hld hte hpu hnu n m hwa hto k wb ld te pu v (by omega) (by omega) (by omega) ht) mo_X8_passDays kl_X10_144 [4, 5, 6, 7, 8, 9, 10, 11, 12] [0, 0, 0, 0, 1, 2, 3, 4, 5, 6, 7, 8, 9] rfl (by decide +kernel) rfl rfl (fun _ => Nat.le_of_ble_eq_true rfl) 4 8 rfl rfl (As := [.int (nI v)]) (st := []) (cs' := (0, 0)) rfl rfl rfl rfl dX10_oils_84 (fun nw_21 hp_22 ws_24 hw_23 => ?_)
          obtain rfl : nw_21 = daysF k wb ld te pu n m g1 day v w := hp_22
          have hw_23x : ws_24 = [(x0, .inr (10, [.ref t, .ref d, .ref h, .ref s, .ref o, .ref p, .ref p2, .ref ru, .ref cu, .ref br, .ref bt])), (s, .inr (8, [.ref h, .ref sw, .ref sg, .int day])), (sw, .inl (V.2.2.1, 7, .inl w)), (sg, .inl (V.2.2.1, 7, .inl g)), (o, .inr (8, [.ref h, .ref ow_, .ref og_, .int (day + nI v)])), (ow_, .inl (V.2.2.1, 7, .inl (daysF k wb ld te pu n m g1 day v w))), (og_, .inl (V.2.2.1, 7, .inl g1)), (h, .inr (4, [.ref hk, .ref hfw, .ref hfg, .ref hwb, .ref hld, .ref hte, .ref hpu, .int (nI n), .int hwa, .int (nI m), .ref hnu, .int hto])), (hk, .inl (V.2.2.1, 7, .inl k)), (hwb, .inl (V.2.2.1, 7, .inl wb)), (hld, .inl (V.2.2.1, 9, .inl (nIf ld))), (hte, .inl (V.2.2.1, 9, .inl (nIf te))), (hpu, .inl (V.2.2.1, 9, .inl (nIf pu)))] := hw_23.symm
          clear hw_23; subst hw_23x
          refine g_aload_n X dX10_oils_87 rfl ?_
          refine g_get X uwX10 0 rfl rfl 4 (by decide) kl_X10_35 rfl rfl gwX10 dX10_oils_88 ?_
          refine g_iload_n X dX10_oils_91 rfl ?_
          refine g_callVi X (c_X8_wrongOf V o ow_ og_ (day + nI v) (daysF k wb ld te pu n m g1 day v w) h c (by omega)) mo_X8_wrongOf kl_X10_121 [4, 5] [0, 0, 0, 0, 1, 2, 0, 0, 0, 0, 0, 0, 0] rfl (by decide +kernel) rfl rfl (fun _ => Nat.le_of_ble_eq_true rfl) 4 8 rfl rfl (As := [.int (nI c)]) (st := []) (cs' := (0, 0)) rfl rfl rfl rfl dX10_oils_92 (fun r_30 u_26 hp_27 ws_29 hw_28 => ?_)
          obtain rfl : r_30 = (daysF k wb ld te pu n m g1 day v w) c := hp_27
          have hw_28x : ws_29 = [(x0, .inr (10, [.ref t, .ref d, .ref h, .ref s, .ref o, .ref p, .ref p2, .ref ru, .ref cu, .ref br, .ref bt])), (s, .inr (8, [.ref h, .ref sw, .ref sg, .int day])), (sw, .inl (V.2.2.1, 7, .inl w)), (sg, .inl (V.2.2.1, 7, .inl g)), (o, .inr (8, [.ref h, .ref ow_, .ref og_, .int (day + nI v)])), (ow_, .inl (V.2.2.1, 7, .inl (daysF k wb ld te pu n m g1 day v w))), (og_, .inl (V.2.2.1, 7, .inl g1)), (h, .inr (4, [.ref hk, .ref hfw, .ref hfg, .ref hwb, .ref hld, .ref hte, .ref hpu, .int (nI n), .int hwa, .int (nI m), .ref hnu, .int hto])), (hk, .inl (V.2.2.1, 7, .inl k)), (hwb, .inl (V.2.2.1, 7, .inl wb)), (hld, .inl (V.2.2.1, 9, .inl (nIf ld))), (hte, .inl (V.2.2.1, 9, .inl (nIf te))), (hpu, .inl (V.2.2.1, 9, .inl (nIf pu)))] := hw_28.symm
          clear hw_28; subst hw_28x
          refine g_mabs X kl_X10_206 dX10_oils_95 (by decide) (Nat.le_of_ble_eq_true rfl) (by decide) (by decide) ?_
          refine g_iload_n X dX10_oils_98 rfl ?_
          refine g_icmp_gt X 105 dX10_oils_99 (by decide) (fun c99_31 => ?_) (fun c99_31 => ?_)
          · have c99_31d := Int32.not_le.mpr c99_31
            refine g_iinc X (v := nI (t_ + 1)) (L' := [some (.ref x0), some (.int (nI c)), some (.int (nI v)), some (.int x), some (.int (nI (t_ + 1))), some (.int (nI i))]) dX10_oils_105 rfl (nI_addk (by decide)) (by decide) rfl rfl ?_
            refine g_goto X 37 dX10_oils_108 (by decide) ?_
            refine g_sub (L' := [some (.ref x0), some (.int (nI c)), some (.int (nI v)), some (.int x), some (.int (nI (t_ + 1))), none]) ⟨rfl, ⟨rfl, ⟨rfl, ⟨rfl, ⟨rfl, trivial⟩⟩⟩⟩⟩ ?_
            exact ih37 (t_ + 1) (by omega) (daysF k wb ld te pu n m g1 day v w) g1 (day + nI v) (fst1_n h5 (by have e : i = t_ := (by omega); subst e; rw [oilsP, ← h6, if_neg (fun z => absurd c99_31 (Int32.not_lt.mpr z))]))
          · have c99_31d := Int32.not_lt.mp c99_31
            refine g_iload X dX10_oils_102 rfl ?_
            exact g_iret X E dX10_oils_104 ⟨daysF k wb ld te pu n m g1 day v w, g1, day + nI v⟩ (nI t_) (by have e : i = t_ := (by omega); subst e; rw [oilsF, fst1_at (r := nI i) h5 (by rw [oilsP, ← h6, if_pos (Int32.not_lt.mp c99_31)]) (by omega)]; rfl) rfl
        | succ d58 ih58 =>
          intro i hi g1 h6
          refine g_iload X dX10_oils_58 rfl ?_
          refine g_iload X dX10_oils_60 rfl ?_
          refine g_icmp_ge X 79 dX10_oils_62 (by decide) (fun c62_32 => absurd c62_32 (fge (a := i) (b := t_) (by omega) (by omega) (by omega))) (fun c62_32 => ?_)
          refine g_aload_n X dX10_oils_65 rfl ?_
          refine g_get X uwX10 0 rfl rfl 4 (by decide) kl_X10_35 rfl rfl gwX10 dX10_oils_66 ?_
          refine g_iload_n X dX10_oils_69 rfl ?_
          refine g_callVv X (c_X8_oilOnce V o ow_ og_ day g1 h c (by omega)) mo_X8_oilOnce kl_X10_160 [4, 6] [0, 0, 0, 0, 1, 0, 2, 0, 0, 0, 0, 0, 0] rfl (by decide +kernel) rfl rfl (fun _ => Nat.le_of_ble_eq_true rfl) 4 8 rfl rfl (As := [.int (nI c)]) (st := []) (cs' := (0, 0)) rfl rfl rfl rfl dX10_oils_70 (fun ng_33 hp_34 ws_36 hw_35 => ?_)
          obtain rfl : ng_33 = (if g1 c = 0 then g1 else upd g1 c (oilF (g1 c))) := hp_34
          have hw_35x : ws_36 = [(x0, .inr (10, [.ref t, .ref d, .ref h, .ref s, .ref o, .ref p, .ref p2, .ref ru, .ref cu, .ref br, .ref bt])), (s, .inr (8, [.ref h, .ref sw, .ref sg, .int day])), (sw, .inl (V.2.2.1, 7, .inl w)), (sg, .inl (V.2.2.1, 7, .inl g)), (o, .inr (8, [.ref h, .ref ow_, .ref og_, .int day])), (ow_, .inl (V.2.2.1, 7, .inl w)), (og_, .inl (V.2.2.1, 7, .inl (if g1 c = 0 then g1 else upd g1 c (oilF (g1 c))))), (h, .inr (4, [.ref hk, .ref hfw, .ref hfg, .ref hwb, .ref hld, .ref hte, .ref hpu, .int (nI n), .int hwa, .int (nI m), .ref hnu, .int hto])), (hk, .inl (V.2.2.1, 7, .inl k)), (hwb, .inl (V.2.2.1, 7, .inl wb)), (hld, .inl (V.2.2.1, 9, .inl (nIf ld))), (hte, .inl (V.2.2.1, 9, .inl (nIf te))), (hpu, .inl (V.2.2.1, 9, .inl (nIf pu)))] := hw_35.symm
          clear hw_35; subst hw_35x
          refine g_iinc X (v := nI (i + 1)) (L' := [some (.ref x0), some (.int (nI c)), some (.int (nI v)), some (.int x), some (.int (nI t_)), some (.int (nI (i + 1)))]) dX10_oils_73 rfl (nI_addk (by decide)) (by decide) rfl rfl ?_
          refine g_goto X 58 dX10_oils_76 (by decide) ?_
          exact ih58 (i + 1) (by omega) (if g1 c = 0 then g1 else upd g1 c (oilF (g1 c))) (by rw [goilF, it_s, ← goilF, ← h6])
      exact loop58_19 t_ 0 (by omega) g rfl
  exact loop37_11 11 0 (by omega) ow og oday rfl

set_option maxHeartbeats 4000000 in
set_option maxRecDepth 100000 in
theorem m_hear_bad (V : gV) (x0 : Nat) (t : Nat) (d : Nat) (h : Nat) (s : Nat) (o : Nat) (p : Nat) (p2 : Nat) (ru : Nat) (cu : Nat) (br : Nat) (bt : Nat) (hk : Nat) (hfw : Nat) (hfg : Nat) (hwb : Nat) (hld : Nat) (hte : Nat) (hpu : Nat) (hnu : Nat) (n : Nat) (m : Nat) (hwa : Int32) (hto : Int32) (c : Int32) (v : Int32) (hn : n ≤ 7) (hbad : ¬ (okC n c ∧ ¬ v < 0 ∧ v ≤ 1200)) : Ki V yX10_hear cX10_hear 3 .int ({ frames := 1, cells := 0, slots := 0, locals := 21 }) [.ref x0, .int c, .int v] [(x0, .inr (10, [.ref t, .ref d, .ref h, .ref s, .ref o, .ref p, .ref p2, .ref ru, .ref cu, .ref br, .ref bt])), (h, .inr (4, [.ref hk, .ref hfw, .ref hfg, .ref hwb, .ref hld, .ref hte, .ref hpu, .int (nI n), .int hwa, .int (nI m), .ref hnu, .int hto]))] (fun (r : Int32) (u : Unit) => r = -1) (fun u => [(x0, .inr (10, [.ref t, .ref d, .ref h, .ref s, .ref o, .ref p, .ref p2, .ref ru, .ref cu, .ref br, .ref bt])), (h, .inr (4, [.ref hk, .ref hfw, .ref hfg, .ref hwb, .ref hld, .ref hte, .ref hpu, .int (nI n), .int hwa, .int (nI m), .ref hnu, .int hto]))]) := by
  refine Ki.of [some (.ref x0), some (.int c), some (.int v)] (by decide) (Nat.le_of_ble_eq_true rfl) rfl rfl ?_
  intro Z X E
  have X : gX V Z RX10 cX10_hear 3 ({ frames := 1, cells := 0, slots := 0, locals := 21 }) := X
  refine g_aload_n X dX10_hear_0 rfl ?_
  refine g_get X uwX10 0 rfl rfl 2 (by decide) kl_X10_23 rfl rfl gwX10 dX10_hear_1 ?_
  refine g_iload_n X dX10_hear_4 rfl ?_
  refine g_callVi X (c_X4_hasClockG V h hk hfw hfg hwb hld hte hpu hnu n m hwa hto c (by omega)) mo_X4_hasClock kl_X10_113 [1] [0, 1] rfl (by decide +kernel) rfl rfl (fun _ => Nat.le_of_ble_eq_true rfl) 1 4 rfl rfl (As := [.int c]) (st := []) (cs' := (0, 0)) rfl rfl rfl rfl dX10_hear_5 (fun r_5 u_1 hp_2 ws_4 hw_3 => ?_)
  obtain rfl : r_5 = (if okC n c then 1 else 0) := hp_2
  have hw_3x : ws_4 = [(x0, .inr (10, [.ref t, .ref d, .ref h, .ref s, .ref o, .ref p, .ref p2, .ref ru, .ref cu, .ref br, .ref bt])), (h, .inr (4, [.ref hk, .ref hfw, .ref hfg, .ref hwb, .ref hld, .ref hte, .ref hpu, .int (nI n), .int hwa, .int (nI m), .ref hnu, .int hto]))] := hw_3.symm
  clear hw_3; subst hw_3x
  refine g_if_eq X 22 dX10_hear_8 (by decide) (fun c8_6 => ?_) (fun c8_6 => ?_)
  · refine g_iconst X (-1) dX10_hear_22 (by decide) ?_
    exact g_iret X E dX10_hear_23 () (-1) (by first | rfl | (simp [c8_6]; done)) rfl
  · refine g_iload_n X dX10_hear_11 rfl ?_
    refine g_if_lt X 22 dX10_hear_12 (by decide) (fun c12_7 => ?_) (fun c12_7 => ?_)
    · have c12_7d := Int32.not_le.mpr c12_7
      refine g_iconst X (-1) dX10_hear_22 (by decide) ?_
      exact g_iret X E dX10_hear_23 () (-1) (by first | rfl | (simp [c8_6, c12_7, c12_7d]; done)) rfl
    · have c12_7d := Int32.not_lt.mp c12_7
      refine g_iload_n X dX10_hear_15 rfl ?_
      refine g_sipush X (1200) dX10_hear_16 (by decide) ?_
      refine g_icmp_le X 24 dX10_hear_19 (by decide) (fun c19_8 => ?_) (fun c19_8 => ?_)
      · have c19_8d := Int32.not_lt.mpr c19_8
        exact absurd ⟨(by have z := c8_6; by_cases q9 : okC n c; exact q9; rw [if_neg q9] at z; exact absurd rfl z), c12_7, c19_8⟩ hbad
      · have c19_8d := Int32.not_le.mp c19_8
        refine g_iconst X (-1) dX10_hear_22 (by decide) ?_
        exact g_iret X E dX10_hear_23 () (-1) (by first | rfl | (simp [c8_6, c12_7, c12_7d, c19_8, c19_8d]; done)) rfl

set_option maxHeartbeats 4000000 in
set_option maxRecDepth 100000 in
theorem m_hear_full (V : gV) (x0 : Nat) (t : Nat) (d : Nat) (h : Nat) (s : Nat) (o : Nat) (p : Nat) (p2 : Nat) (ru : Nat) (cu : Nat) (br : Nat) (bt : Nat) (hk : Nat) (hfw : Nat) (hfg : Nat) (hwb : Nat) (hld : Nat) (hte : Nat) (hpu : Nat) (hnu : Nat) (n : Nat) (m : Nat) (hwa : Int32) (hto : Int32) (ruc : Nat) (rum : Nat) (z : Nat) (rc : Nat → Nat) (rm : Nat → Int32) (c : Nat) (v : Int32) (hn : n ≤ 7) (hc : c < n) (h1 : ¬ v < 0) (h2 : v ≤ 1200) (hz : z = 6) : Ki V yX10_hear cX10_hear 3 .int ({ frames := 1, cells := 0, slots := 0, locals := 21 }) [.ref x0, .int (nI c), .int v] [(x0, .inr (10, [.ref t, .ref d, .ref h, .ref s, .ref o, .ref p, .ref p2, .ref ru, .ref cu, .ref br, .ref bt])), (h, .inr (4, [.ref hk, .ref hfw, .ref hfg, .ref hwb, .ref hld, .ref hte, .ref hpu, .int (nI n), .int hwa, .int (nI m), .ref hnu, .int hto])), (ru, .inr (6, [.ref ruc, .ref rum, .int (nI z)])), (ruc, .inl (V.2.2.1, 6, .inl (nIf rc))), (rum, .inl (V.2.2.1, 6, .inl rm))] (fun (r : Int32) (u : Unit) => r = -3) (fun u => [(x0, .inr (10, [.ref t, .ref d, .ref h, .ref s, .ref o, .ref p, .ref p2, .ref ru, .ref cu, .ref br, .ref bt])), (h, .inr (4, [.ref hk, .ref hfw, .ref hfg, .ref hwb, .ref hld, .ref hte, .ref hpu, .int (nI n), .int hwa, .int (nI m), .ref hnu, .int hto])), (ru, .inr (6, [.ref ruc, .ref rum, .int (nI z)])), (ruc, .inl (V.2.2.1, 6, .inl (nIf rc))), (rum, .inl (V.2.2.1, 6, .inl rm))]) := by
  refine Ki.of [some (.ref x0), some (.int (nI c)), some (.int v)] (by decide) (Nat.le_of_ble_eq_true rfl) rfl rfl ?_
  intro Z X E
  have X : gX V Z RX10 cX10_hear 3 ({ frames := 1, cells := 0, slots := 0, locals := 21 }) := X
  refine g_aload_n X dX10_hear_0 rfl ?_
  refine g_get X uwX10 0 rfl rfl 2 (by decide) kl_X10_23 rfl rfl gwX10 dX10_hear_1 ?_
  refine g_iload_n X dX10_hear_4 rfl ?_
  refine g_callVi X (c_X4_hasClockG V h hk hfw hfg hwb hld hte hpu hnu n m hwa hto (nI c) (by omega)) mo_X4_hasClock kl_X10_113 [1] [0, 1, 0, 0, 0] rfl (by decide +kernel) rfl rfl (fun _ => Nat.le_of_ble_eq_true rfl) 1 4 rfl rfl (As := [.int (nI c)]) (st := []) (cs' := (0, 0)) rfl rfl rfl rfl dX10_hear_5 (fun r_5 u_1 hp_2 ws_4 hw_3 => ?_)
  obtain rfl : r_5 = (if okC n (nI c) then 1 else 0) := hp_2
  have hw_3x : ws_4 = [(x0, .inr (10, [.ref t, .ref d, .ref h, .ref s, .ref o, .ref p, .ref p2, .ref ru, .ref cu, .ref br, .ref bt])), (h, .inr (4, [.ref hk, .ref hfw, .ref hfg, .ref hwb, .ref hld, .ref hte, .ref hpu, .int (nI n), .int hwa, .int (nI m), .ref hnu, .int hto])), (ru, .inr (6, [.ref ruc, .ref rum, .int (nI z)])), (ruc, .inl (V.2.2.1, 6, .inl (nIf rc))), (rum, .inl (V.2.2.1, 6, .inl rm))] := hw_3.symm
  clear hw_3; subst hw_3x
  refine g_if_eq X 22 dX10_hear_8 (by decide) (fun c8_6 => absurd c8_6 (by rw [if_pos (okC_nI hc (by omega))]; decide)) (fun c8_6 => ?_)
  refine g_iload_n X dX10_hear_11 rfl ?_
  refine g_if_lt X 22 dX10_hear_12 (by decide) (fun c12_7 => absurd c12_7 h1) (fun c12_7 => ?_)
  refine g_iload_n X dX10_hear_15 rfl ?_
  refine g_sipush X (1200) dX10_hear_16 (by decide) ?_
  refine g_icmp_le X 24 dX10_hear_19 (by decide) (fun c19_8 => ?_) (fun c19_8 => absurd h2 c19_8)
  refine g_aload_n X dX10_hear_24 rfl ?_
  refine g_get X uwX10 0 rfl rfl 7 (by decide) kl_X10_53 rfl rfl gwX10 dX10_hear_25 ?_
  refine g_getN X uwX6 2 rfl rfl 2 (by decide) kl_X10_107 rfl rfl gwX6 dX10_hear_28 ?_
  refine g_bipush X (6) dX10_hear_31 (by decide) ?_
  refine g_icmp_lt X 39 dX10_hear_33 (by decide) (fun c33_9 => absurd c33_9 (flt (a := z) (b := 6) (by omega) (by omega) (by omega))) (fun c33_9 => ?_)
  refine g_bipush X (-3) dX10_hear_36 (by decide) ?_
  exact g_iret X E dX10_hear_38 () (-3) (by first | rfl | (simp [c8_6, c12_7, c19_8, c33_9]; done)) rfl

set_option maxHeartbeats 4000000 in
set_option maxRecDepth 100000 in
theorem m_hear_ok (V : gV) (x0 : Nat) (t : Nat) (d : Nat) (h : Nat) (s : Nat) (o : Nat) (p : Nat) (p2 : Nat) (ru : Nat) (cu : Nat) (br : Nat) (bt : Nat) (hk : Nat) (hfw : Nat) (hfg : Nat) (hwb : Nat) (hld : Nat) (hte : Nat) (hpu : Nat) (hnu : Nat) (n : Nat) (m : Nat) (hwa : Int32) (hto : Int32) (ruc : Nat) (rum : Nat) (z : Nat) (rc : Nat → Nat) (rm : Nat → Int32) (c : Nat) (v : Int32) (hn : n ≤ 7) (hc : c < n) (h1 : ¬ v < 0) (h2 : v ≤ 1200) (hz : z < 6) : Ki V yX10_hear cX10_hear 3 .int ({ frames := 2, cells := 0, slots := 0, locals := 44 }) [.ref x0, .int (nI c), .int v] [(x0, .inr (10, [.ref t, .ref d, .ref h, .ref s, .ref o, .ref p, .ref p2, .ref ru, .ref cu, .ref br, .ref bt])), (h, .inr (4, [.ref hk, .ref hfw, .ref hfg, .ref hwb, .ref hld, .ref hte, .ref hpu, .int (nI n), .int hwa, .int (nI m), .ref hnu, .int hto])), (ru, .inr (6, [.ref ruc, .ref rum, .int (nI z)])), (ruc, .inl (V.2.2.1, 6, .inl (nIf rc))), (rum, .inl (V.2.2.1, 6, .inl rm))] (fun (r : Int32) (u : Unit) => r = nI (z + 1)) (fun u => [(x0, .inr (10, [.ref t, .ref d, .ref h, .ref s, .ref o, .ref p, .ref p2, .ref ru, .ref cu, .ref br, .ref bt])), (h, .inr (4, [.ref hk, .ref hfw, .ref hfg, .ref hwb, .ref hld, .ref hte, .ref hpu, .int (nI n), .int hwa, .int (nI m), .ref hnu, .int hto])), (ru, .inr (6, [.ref ruc, .ref rum, .int (nI (z + 1))])), (ruc, .inl (V.2.2.1, 6, .inl (nIf (updN rc z c)))), (rum, .inl (V.2.2.1, 6, .inl (upd rm z (v - 600))))]) := by
  refine Ki.of [some (.ref x0), some (.int (nI c)), some (.int v)] (by decide) (Nat.le_of_ble_eq_true rfl) rfl rfl ?_
  intro Z X E
  have X : gX V Z RX10 cX10_hear 3 ({ frames := 2, cells := 0, slots := 0, locals := 44 }) := X
  refine g_aload_n X dX10_hear_0 rfl ?_
  refine g_get X uwX10 0 rfl rfl 2 (by decide) kl_X10_23 rfl rfl gwX10 dX10_hear_1 ?_
  refine g_iload_n X dX10_hear_4 rfl ?_
  refine g_callVi X (c_X4_hasClockG V h hk hfw hfg hwb hld hte hpu hnu n m hwa hto (nI c) (by omega)) mo_X4_hasClock kl_X10_113 [1] [0, 1, 0, 0, 0] rfl (by decide +kernel) rfl rfl (fun _ => Nat.le_of_ble_eq_true rfl) 1 4 rfl rfl (As := [.int (nI c)]) (st := []) (cs' := (0, 0)) rfl rfl rfl rfl dX10_hear_5 (fun r_5 u_1 hp_2 ws_4 hw_3 => ?_)
  obtain rfl : r_5 = (if okC n (nI c) then 1 else 0) := hp_2
  have hw_3x : ws_4 = [(x0, .inr (10, [.ref t, .ref d, .ref h, .ref s, .ref o, .ref p, .ref p2, .ref ru, .ref cu, .ref br, .ref bt])), (h, .inr (4, [.ref hk, .ref hfw, .ref hfg, .ref hwb, .ref hld, .ref hte, .ref hpu, .int (nI n), .int hwa, .int (nI m), .ref hnu, .int hto])), (ru, .inr (6, [.ref ruc, .ref rum, .int (nI z)])), (ruc, .inl (V.2.2.1, 6, .inl (nIf rc))), (rum, .inl (V.2.2.1, 6, .inl rm))] := hw_3.symm
  clear hw_3; subst hw_3x
  refine g_if_eq X 22 dX10_hear_8 (by decide) (fun c8_6 => absurd c8_6 (by rw [if_pos (okC_nI hc (by omega))]; decide)) (fun c8_6 => ?_)
  refine g_iload_n X dX10_hear_11 rfl ?_
  refine g_if_lt X 22 dX10_hear_12 (by decide) (fun c12_7 => absurd c12_7 h1) (fun c12_7 => ?_)
  refine g_iload_n X dX10_hear_15 rfl ?_
  refine g_sipush X (1200) dX10_hear_16 (by decide) ?_
  refine g_icmp_le X 24 dX10_hear_19 (by decide) (fun c19_8 => ?_) (fun c19_8 => absurd h2 c19_8)
  refine g_aload_n X dX10_hear_24 rfl ?_
  refine g_get X uwX10 0 rfl rfl 7 (by decide) kl_X10_53 rfl rfl gwX10 dX10_hear_25 ?_
  refine g_getN X uwX6 2 rfl rfl 2 (by decide) kl_X10_107 rfl rfl gwX6 dX10_hear_28 ?_
  refine g_bipush X (6) dX10_hear_31 (by decide) ?_
  refine g_icmp_lt X 39 dX10_hear_33 (by decide) (fun c33_9 => ?_) (fun c33_9 => absurd (tlt (a := z) (b := 6) (by omega) (by omega) (by omega)) c33_9)
  refine g_aload_n X dX10_hear_39 rfl ?_
  refine g_get X uwX10 0 rfl rfl 7 (by decide) kl_X10_53 rfl rfl gwX10 dX10_hear_40 ?_
  refine g_iload_n X dX10_hear_43 rfl ?_
  refine g_iload_n X dX10_hear_44 rfl ?_
  refine g_sipush X (600) dX10_hear_45 (by decide) ?_
  refine g_isub X dX10_hear_48 ?_
  refine g_callVv X (c_X6_add V ru ruc rum z rc rm c (v - 600) (by omega)) mo_X6_add kl_X10_211 [2, 3, 4] [0, 0, 1, 2, 3] rfl (by decide +kernel) rfl rfl (fun _ => Nat.le_of_ble_eq_true rfl) 2 6 rfl rfl (As := [.int (nI c), .int (v - 600)]) (st := []) (cs' := (0, 0)) rfl rfl rfl rfl dX10_hear_49 (fun u_10 hp_11 ws_13 hw_12 => ?_)
  have hw_12x : ws_13 = [(x0, .inr (10, [.ref t, .ref d, .ref h, .ref s, .ref o, .ref p, .ref p2, .ref ru, .ref cu, .ref br, .ref bt])), (h, .inr (4, [.ref hk, .ref hfw, .ref hfg, .ref hwb, .ref hld, .ref hte, .ref hpu, .int (nI n), .int hwa, .int (nI m), .ref hnu, .int hto])), (ru, .inr (6, [.ref ruc, .ref rum, .int (nI (z + 1))])), (ruc, .inl (V.2.2.1, 6, .inl (nIf (updN rc z c)))), (rum, .inl (V.2.2.1, 6, .inl (upd rm z (v - 600))))] := hw_12.symm
  clear hw_12; subst hw_12x
  refine g_aload_n X dX10_hear_52 rfl ?_
  refine g_get X uwX10 0 rfl rfl 7 (by decide) kl_X10_53 rfl rfl gwX10 dX10_hear_53 ?_
  refine g_getN X uwX6 2 rfl rfl 2 (by decide) kl_X10_107 rfl rfl gwX6 dX10_hear_56 ?_
  exact g_iret X E dX10_hear_59 () (nI (z + 1)) (by first | rfl | (simp [c8_6, c12_7, c19_8, c33_9]; done)) rfl

set_option maxHeartbeats 4000000 in
set_option maxRecDepth 100000 in
theorem m_forget (V : gV) (x0 : Nat) (t : Nat) (d : Nat) (h : Nat) (s : Nat) (o : Nat) (p : Nat) (p2 : Nat) (ru : Nat) (cu : Nat) (br : Nat) (bt : Nat) (ruc : Nat) (rum : Nat) (z : Nat) (rc : Nat → Nat) (rm : Nat → Int32)  : Ki V yX10_forget cX10_forget 2 .int ({ frames := 0, cells := 0, slots := 0, locals := 0 }) [.ref x0] [(x0, .inr (10, [.ref t, .ref d, .ref h, .ref s, .ref o, .ref p, .ref p2, .ref ru, .ref cu, .ref br, .ref bt])), (ru, .inr (6, [.ref ruc, .ref rum, .int (nI z)])), (ruc, .inl (V.2.2.1, 6, .inl (nIf rc))), (rum, .inl (V.2.2.1, 6, .inl rm))] (fun (r : Int32) (u : Unit) => r = nI z) (fun u => [(x0, .inr (10, [.ref t, .ref d, .ref h, .ref s, .ref o, .ref p, .ref p2, .ref ru, .ref cu, .ref br, .ref bt])), (ru, .inr (6, [.ref ruc, .ref rum, .int (nI 0)])), (ruc, .inl (V.2.2.1, 6, .inl (nIf rc))), (rum, .inl (V.2.2.1, 6, .inl rm))]) := by
  refine Ki.of [some (.ref x0), none] (by decide) (Nat.le_of_ble_eq_true rfl) rfl rfl ?_
  intro Z X E
  have X : gX V Z RX10 cX10_forget 2 ({ frames := 0, cells := 0, slots := 0, locals := 0 }) := X
  refine g_aload_n X dX10_forget_0 rfl ?_
  refine g_get X uwX10 0 rfl rfl 7 (by decide) kl_X10_53 rfl rfl gwX10 dX10_forget_1 ?_
  refine g_getN X uwX6 1 rfl rfl 2 (by decide) kl_X10_107 rfl rfl gwX6 dX10_forget_4 ?_
  refine g_istore_n X (L' := [some (.ref x0), some (.int (nI z))]) dX10_forget_7 (by decide) rfl rfl ?_
  refine g_aload_n X dX10_forget_8 rfl ?_
  refine g_get X uwX10 0 rfl rfl 7 (by decide) kl_X10_53 rfl rfl gwX10 dX10_forget_9 ?_
  refine g_iconst X (0) dX10_forget_12 (by decide) ?_
  refine g_putN X uwX6 tyX6 tyX6_ok nmX6 1 rfl rfl 2 (by decide) kl_X10_107 rfl rfl rfl rfl (Nat.le_of_ble_eq_true rfl) gwX6 (ws' := [(x0, .inr (10, [.ref t, .ref d, .ref h, .ref s, .ref o, .ref p, .ref p2, .ref ru, .ref cu, .ref br, .ref bt])), (ru, .inr (6, [.ref ruc, .ref rum, .int 0])), (ruc, .inl (V.2.2.1, 6, .inl (nIf rc))), (rum, .inl (V.2.2.1, 6, .inl rm))]) rfl dX10_forget_13 ?_
  refine g_iload_n X dX10_forget_16 rfl ?_
  exact g_iret X E dX10_forget_17 () (nI z) (by first | rfl | (simp []; done)) rfl

set_option maxHeartbeats 4000000 in
set_option maxRecDepth 100000 in
theorem c_X10_isHeard (V : gV) (x0 : Nat) (t : Nat) (d : Nat) (h : Nat) (s : Nat) (o : Nat) (p : Nat) (p2 : Nat) (ru : Nat) (cu : Nat) (br : Nat) (bt : Nat) (hk : Nat) (hfw : Nat) (hfg : Nat) (hwb : Nat) (hld : Nat) (hte : Nat) (hpu : Nat) (hnu : Nat) (n : Nat) (m : Nat) (hwa : Int32) (hto : Int32) (k : Nat → Int32) (ruc : Nat) (rum : Nat) (z : Nat) (rc : Nat → Nat) (rm : Nat → Int32) (ow_ : Nat) (og_ : Nat) (day : Int32) (w : Nat → Int32) (a : Nat) (b : Nat) (hn : n ≤ 7) (hB : Bd n w) (hz : z ≤ 6) (hr : ∀ i, i < z → rc i < n) (ha : a < n) (hb : b < n) : Ki V yX10_isHeardWhenTaught cX10_isHeardWhenTaught 5 .boolean ({ frames := 3, cells := 0, slots := 0, locals := 67 }) [.ref x0, .int (nI a), .int (nI b)] [(x0, .inr (10, [.ref t, .ref d, .ref h, .ref s, .ref o, .ref p, .ref p2, .ref ru, .ref cu, .ref br, .ref bt])), (ru, .inr (6, [.ref ruc, .ref rum, .int (nI z)])), (ruc, .inl (V.2.2.1, 6, .inl (nIf rc))), (rum, .inl (V.2.2.1, 6, .inl rm)), (o, .inr (8, [.ref h, .ref ow_, .ref og_, .int day])), (ow_, .inl (V.2.2.1, 7, .inl w)), (h, .inr (4, [.ref hk, .ref hfw, .ref hfg, .ref hwb, .ref hld, .ref hte, .ref hpu, .int (nI n), .int hwa, .int (nI m), .ref hnu, .int hto])), (hk, .inl (V.2.2.1, 7, .inl k))] (fun (r : Int32) (u : Unit) => r = fitF z rc rm (learnF k day a b w)) (fun u => [(x0, .inr (10, [.ref t, .ref d, .ref h, .ref s, .ref o, .ref p, .ref p2, .ref ru, .ref cu, .ref br, .ref bt])), (ru, .inr (6, [.ref ruc, .ref rum, .int (nI z)])), (ruc, .inl (V.2.2.1, 6, .inl (nIf rc))), (rum, .inl (V.2.2.1, 6, .inl rm)), (o, .inr (8, [.ref h, .ref ow_, .ref og_, .int day])), (ow_, .inl (V.2.2.1, 7, .inl w)), (h, .inr (4, [.ref hk, .ref hfw, .ref hfg, .ref hwb, .ref hld, .ref hte, .ref hpu, .int (nI n), .int hwa, .int (nI m), .ref hnu, .int hto])), (hk, .inl (V.2.2.1, 7, .inl k))]) := by
  refine Ki.of [some (.ref x0), some (.int (nI a)), some (.int (nI b)), none, none] (by decide) (Nat.le_of_ble_eq_true rfl) rfl rfl ?_
  intro Z X E
  have X : gX V Z RX10 cX10_isHeardWhenTaught 5 ({ frames := 3, cells := 0, slots := 0, locals := 67 }) := X
  refine g_aload_n X dX10_isHeardWhenTaught_0 rfl ?_
  refine g_get X uwX10 0 rfl rfl 4 (by decide) kl_X10_35 rfl rfl gwX10 dX10_isHeardWhenTaught_1 ?_
  refine g_iload_n X dX10_isHeardWhenTaught_4 rfl ?_
  refine g_callVi X (c_X8_wrongOf V o ow_ og_ day w h b (by omega)) mo_X8_wrongOf kl_X10_121 [4, 5] [0, 0, 0, 0, 1, 2, 0, 0] rfl (by decide +kernel) rfl rfl (fun _ => Nat.le_of_ble_eq_true rfl) 4 8 rfl rfl (As := [.int (nI b)]) (st := []) (cs' := (0, 0)) rfl rfl rfl rfl dX10_isHeardWhenTaught_5 (fun r_5 u_1 hp_2 ws_4 hw_3 => ?_)
  obtain rfl : r_5 = w b := hp_2
  have hw_3x : ws_4 = [(x0, .inr (10, [.ref t, .ref d, .ref h, .ref s, .ref o, .ref p, .ref p2, .ref ru, .ref cu, .ref br, .ref bt])), (ru, .inr (6, [.ref ruc, .ref rum, .int (nI z)])), (ruc, .inl (V.2.2.1, 6, .inl (nIf rc))), (rum, .inl (V.2.2.1, 6, .inl rm)), (o, .inr (8, [.ref h, .ref ow_, .ref og_, .int day])), (ow_, .inl (V.2.2.1, 7, .inl w)), (h, .inr (4, [.ref hk, .ref hfw, .ref hfg, .ref hwb, .ref hld, .ref hte, .ref hpu, .int (nI n), .int hwa, .int (nI m), .ref hnu, .int hto])), (hk, .inl (V.2.2.1, 7, .inl k))] := hw_3.symm
  clear hw_3; subst hw_3x
  refine g_istore_n X (L' := [some (.ref x0), some (.int (nI a)), some (.int (nI b)), some (.int (w b)), none]) dX10_isHeardWhenTaught_8 (by decide) rfl rfl ?_
  refine g_aload_n X dX10_isHeardWhenTaught_9 rfl ?_
  refine g_get X uwX10 0 rfl rfl 4 (by decide) kl_X10_35 rfl rfl gwX10 dX10_isHeardWhenTaught_10 ?_
  refine g_iload_n X dX10_isHeardWhenTaught_13 rfl ?_
  refine g_iload_n X dX10_isHeardWhenTaught_14 rfl ?_
  refine g_callVv X (c_X8_learn V o ow_ og_ day w h hk hfw hfg hwb hld hte hpu hnu n m hwa hto k a b (by omega) (by omega)) mo_X8_learn kl_X10_153 [4, 5, 6, 7] [0, 0, 0, 0, 1, 2, 3, 4] rfl (by decide +kernel) rfl rfl (fun _ => Nat.le_of_ble_eq_true rfl) 4 8 rfl rfl (As := [.int (nI a), .int (nI b)]) (st := []) (cs' := (0, 0)) rfl rfl rfl rfl dX10_isHeardWhenTaught_15 (fun nw_6 hp_7 ws_9 hw_8 => ?_)
  obtain rfl : nw_6 = learnF k day a b w := hp_7
  have hw_8x : ws_9 = [(x0, .inr (10, [.ref t, .ref d, .ref h, .ref s, .ref o, .ref p, .ref p2, .ref ru, .ref cu, .ref br, .ref bt])), (ru, .inr (6, [.ref ruc, .ref rum, .int (nI z)])), (ruc, .inl (V.2.2.1, 6, .inl (nIf rc))), (rum, .inl (V.2.2.1, 6, .inl rm)), (o, .inr (8, [.ref h, .ref ow_, .ref og_, .int day])), (ow_, .inl (V.2.2.1, 7, .inl (learnF k day a b w))), (h, .inr (4, [.ref hk, .ref hfw, .ref hfg, .ref hwb, .ref hld, .ref hte, .ref hpu, .int (nI n), .int hwa, .int (nI m), .ref hnu, .int hto])), (hk, .inl (V.2.2.1, 7, .inl k))] := hw_8.symm
  clear hw_8; subst hw_8x
  refine g_aload_n X dX10_isHeardWhenTaught_18 rfl ?_
  refine g_get X uwX10 0 rfl rfl 7 (by decide) kl_X10_53 rfl rfl gwX10 dX10_isHeardWhenTaught_19 ?_
  refine g_aload_n X dX10_isHeardWhenTaught_22 rfl ?_
  refine g_get X uwX10 0 rfl rfl 4 (by decide) kl_X10_35 rfl rfl gwX10 dX10_isHeardWhenTaught_23 ?_
  refine g_callVi X (c_X6_fit V ru ruc rum z rc rm o ow_ og_ day (learnF k day a b w) h (by omega) (fun i hi => by have := hr i hi; omega)) mo_X6_fit kl_X10_223 [1, 2, 3, 4, 5] [0, 1, 2, 3, 4, 5, 0, 0] rfl (by decide +kernel) rfl rfl (fun _ => Nat.le_of_ble_eq_true rfl) 1 6 rfl rfl (As := [.ref o]) (st := []) (cs' := (0, 0)) rfl rfl rfl rfl dX10_isHeardWhenTaught_26 (fun r_15 u_11 hp_12 ws_14 hw_13 => ?_)
  obtain rfl : r_15 = fitF z rc rm (learnF k day a b w) := hp_12
  have hw_13x : ws_14 = [(x0, .inr (10, [.ref t, .ref d, .ref h, .ref s, .ref o, .ref p, .ref p2, .ref ru, .ref cu, .ref br, .ref bt])), (ru, .inr (6, [.ref ruc, .ref rum, .int (nI z)])), (ruc, .inl (V.2.2.1, 6, .inl (nIf rc))), (rum, .inl (V.2.2.1, 6, .inl rm)), (o, .inr (8, [.ref h, .ref ow_, .ref og_, .int day])), (ow_, .inl (V.2.2.1, 7, .inl (learnF k day a b w))), (h, .inr (4, [.ref hk, .ref hfw, .ref hfg, .ref hwb, .ref hld, .ref hte, .ref hpu, .int (nI n), .int hwa, .int (nI m), .ref hnu, .int hto])), (hk, .inl (V.2.2.1, 7, .inl k))] := hw_13.symm
  clear hw_13; subst hw_13x
  refine g_istore X (L' := [some (.ref x0), some (.int (nI a)), some (.int (nI b)), some (.int (w b)), some (.int (fitF z rc rm (learnF k day a b w)))]) dX10_isHeardWhenTaught_29 (by decide) rfl rfl ?_
  refine g_aload_n X dX10_isHeardWhenTaught_31 rfl ?_
  refine g_get X uwX10 0 rfl rfl 4 (by decide) kl_X10_35 rfl rfl gwX10 dX10_isHeardWhenTaught_32 ?_
  refine g_iload_n X dX10_isHeardWhenTaught_35 rfl ?_
  refine g_iload_n X dX10_isHeardWhenTaught_36 rfl ?_
  refine g_callVv X (c_X8_makeWrong V o ow_ og_ day (learnF k day a b w) h b (w b) (by omega)) mo_X8_makeWrong kl_X10_157 [4, 5] [0, 0, 0, 0, 1, 2, 0, 0] rfl (by decide +kernel) rfl rfl (fun _ => Nat.le_of_ble_eq_true rfl) 4 8 rfl rfl (As := [.int (nI b), .int (w b)]) (st := []) (cs' := (0, 0)) rfl rfl rfl rfl dX10_isHeardWhenTaught_37 (fun nw_16 hp_17 ws_19 hw_18 => ?_)
  obtain rfl : nw_16 = upd (learnF k day a b w) b (clampF (w b)) := hp_17
  have hw_18x : ws_19 = [(x0, .inr (10, [.ref t, .ref d, .ref h, .ref s, .ref o, .ref p, .ref p2, .ref ru, .ref cu, .ref br, .ref bt])), (ru, .inr (6, [.ref ruc, .ref rum, .int (nI z)])), (ruc, .inl (V.2.2.1, 6, .inl (nIf rc))), (rum, .inl (V.2.2.1, 6, .inl rm)), (o, .inr (8, [.ref h, .ref ow_, .ref og_, .int day])), (ow_, .inl (V.2.2.1, 7, .inl (upd (learnF k day a b w) b (clampF (w b))))), (h, .inr (4, [.ref hk, .ref hfw, .ref hfg, .ref hwb, .ref hld, .ref hte, .ref hpu, .int (nI n), .int hwa, .int (nI m), .ref hnu, .int hto])), (hk, .inl (V.2.2.1, 7, .inl k))] := hw_18.symm
  clear hw_18; subst hw_18x
  refine g_arr 5 w rfl (back1 (hB b hb)) (ws' := [(x0, .inr (10, [.ref t, .ref d, .ref h, .ref s, .ref o, .ref p, .ref p2, .ref ru, .ref cu, .ref br, .ref bt])), (ru, .inr (6, [.ref ruc, .ref rum, .int (nI z)])), (ruc, .inl (V.2.2.1, 6, .inl (nIf rc))), (rum, .inl (V.2.2.1, 6, .inl rm)), (o, .inr (8, [.ref h, .ref ow_, .ref og_, .int day])), (ow_, .inl (V.2.2.1, 7, .inl w)), (h, .inr (4, [.ref hk, .ref hfw, .ref hfg, .ref hwb, .ref hld, .ref hte, .ref hpu, .int (nI n), .int hwa, .int (nI m), .ref hnu, .int hto])), (hk, .inl (V.2.2.1, 7, .inl k))]) rfl ?_
  refine g_iload X dX10_isHeardWhenTaught_40 rfl ?_
  exact g_zret X E dX10_isHeardWhenTaught_42 () (fitF z rc rm (learnF k day a b w)) (fit_bool _ _ _ _) (by first | rfl | (simp []; done)) rfl

set_option maxHeartbeats 4000000 in
set_option maxRecDepth 100000 in
theorem m_taught_bad (V : gV) (x0 : Nat) (t : Nat) (d : Nat) (h : Nat) (s : Nat) (o : Nat) (p : Nat) (p2 : Nat) (ru : Nat) (cu : Nat) (br : Nat) (bt : Nat) (v : Int32) (hbad : ¬ (v = 0 ∨ v = 1)) : Ki V yX10_taught cX10_taught 6 .int ({ frames := 0, cells := 0, slots := 0, locals := 0 }) [.ref x0, .int v] [(x0, .inr (10, [.ref t, .ref d, .ref h, .ref s, .ref o, .ref p, .ref p2, .ref ru, .ref cu, .ref br, .ref bt]))] (fun (r : Int32) (u : Unit) => r = -1) (fun u => [(x0, .inr (10, [.ref t, .ref d, .ref h, .ref s, .ref o, .ref p, .ref p2, .ref ru, .ref cu, .ref br, .ref bt]))]) := by
  refine Ki.of [some (.ref x0), some (.int v), none, none, none, none] (by decide) (Nat.le_of_ble_eq_true rfl) rfl rfl ?_
  intro Z X E
  have X : gX V Z RX10 cX10_taught 6 ({ frames := 0, cells := 0, slots := 0, locals := 0 }) := X
  refine g_iload_n X dX10_taught_0 rfl ?_
  refine g_if_eq X 11 dX10_taught_1 (by decide) (fun c1_1 => absurd c1_1 (fun z => hbad (Or.inl z))) (fun c1_1 => ?_)
  refine g_iload_n X dX10_taught_4 rfl ?_
  refine g_iconst X (1) dX10_taught_5 (by decide) ?_
  refine g_icmp_eq X 11 dX10_taught_6 (by decide) (fun c6_2 => absurd c6_2 (fun z => hbad (Or.inr z))) (fun c6_2 => ?_)
  refine g_iconst X (-1) dX10_taught_9 (by decide) ?_
  exact g_iret X E dX10_taught_10 () (-1) (by first | rfl | (simp [c1_1, c6_2]; done)) rfl

set_option maxHeartbeats 4000000 in
set_option maxRecDepth 100000 in
theorem m_taught_0 (V : gV) (x0 : Nat) (t : Nat) (d : Nat) (h : Nat) (s : Nat) (o : Nat) (p : Nat) (p2 : Nat) (ru : Nat) (cu : Nat) (br : Nat) (bt : Nat) (sw : Nat) (sg : Nat) (day : Int32) (w : Nat → Int32) (g : Nat → Int32) (ow_ : Nat) (og_ : Nat) (oday : Int32) (ow : Nat → Int32) (og : Nat → Int32) (hk : Nat) (hfw : Nat) (hfg : Nat) (hwb : Nat) (hld : Nat) (hte : Nat) (hpu : Nat) (hnu : Nat) (n : Nat) (m : Nat) (hwa : Int32) (hto : Int32) (k : Nat → Int32) (ruc : Nat) (rum : Nat) (z : Nat) (rc : Nat → Nat) (rm : Nat → Int32) (hn : n ≤ 7) (hB : Bd n w) (hz : z ≤ 6) (hr : ∀ i, i < z → rc i < n) : Ki V yX10_taught cX10_taught 6 .int ({ frames := 4, cells := 0, slots := 0, locals := 91 }) [.ref x0, .int 0] [(x0, .inr (10, [.ref t, .ref d, .ref h, .ref s, .ref o, .ref p, .ref p2, .ref ru, .ref cu, .ref br, .ref bt])), (s, .inr (8, [.ref h, .ref sw, .ref sg, .int day])), (sw, .inl (V.2.2.1, 7, .inl w)), (sg, .inl (V.2.2.1, 7, .inl g)), (ru, .inr (6, [.ref ruc, .ref rum, .int (nI z)])), (ruc, .inl (V.2.2.1, 6, .inl (nIf rc))), (rum, .inl (V.2.2.1, 6, .inl rm)), (o, .inr (8, [.ref h, .ref ow_, .ref og_, .int oday])), (ow_, .inl (V.2.2.1, 7, .inl ow)), (og_, .inl (V.2.2.1, 7, .inl og)), (h, .inr (4, [.ref hk, .ref hfw, .ref hfg, .ref hwb, .ref hld, .ref hte, .ref hpu, .int (nI n), .int hwa, .int (nI m), .ref hnu, .int hto])), (hk, .inl (V.2.2.1, 7, .inl k))] (fun (r : Int32) (u : Unit) => r = nI (tauF k day n w z rc rm).1) (fun u => [(x0, .inr (10, [.ref t, .ref d, .ref h, .ref s, .ref o, .ref p, .ref p2, .ref ru, .ref cu, .ref br, .ref bt])), (s, .inr (8, [.ref h, .ref sw, .ref sg, .int day])), (sw, .inl (V.2.2.1, 7, .inl w)), (sg, .inl (V.2.2.1, 7, .inl g)), (ru, .inr (6, [.ref ruc, .ref rum, .int (nI z)])), (ruc, .inl (V.2.2.1, 6, .inl (nIf rc))), (rum, .inl (V.2.2.1, 6, .inl rm)), (o, .inr (8, [.ref h, .ref ow_, .ref og_, .int day])), (ow_, .inl (V.2.2.1, 7, .inl w)), (og_, .inl (V.2.2.1, 7, .inl g)), (h, .inr (4, [.ref hk, .ref hfw, .ref hfg, .ref hwb, .ref hld, .ref hte, .ref hpu, .int (nI n), .int hwa, .int (nI m), .ref hnu, .int hto])), (hk, .inl (V.2.2.1, 7, .inl k))]) := by
  refine Ki.of [some (.ref x0), some (.int 0), none, none, none, none] (by decide) (Nat.le_of_ble_eq_true rfl) rfl rfl ?_
  intro Z X E
  have X : gX V Z RX10 cX10_taught 6 ({ frames := 4, cells := 0, slots := 0, locals := 91 }) := X
  refine g_iload_n X dX10_taught_0 rfl ?_
  refine g_if_eq X 11 dX10_taught_1 (by decide) (fun c1_1 => ?_) (fun c1_1 => absurd (by decide) c1_1)
  refine g_iconst X (0) dX10_taught_11 (by decide) ?_
  refine g_istore_n X (L' := [some (.ref x0), some (.int 0), some (.int 0), none, none, none]) dX10_taught_12 (by decide) rfl rfl ?_
  refine g_bipush X (-4) dX10_taught_13 (by decide) ?_
  refine g_istore_n X (L' := [some (.ref x0), some (.int 0), some (.int 0), some (.int (-4)), none, none]) dX10_taught_15 (by decide) rfl rfl ?_
  refine g_aload_n X dX10_taught_16 rfl ?_
  refine g_get X uwX10 0 rfl rfl 4 (by decide) kl_X10_35 rfl rfl gwX10 dX10_taught_17 ?_
  refine g_aload_n X dX10_taught_20 rfl ?_
  refine g_get X uwX10 0 rfl rfl 3 (by decide) kl_X10_31 rfl rfl gwX10 dX10_taught_21 ?_
  refine g_callVv X (c_X8_takeFrom V o ow_ og_ oday ow og h s sw sg h day w g) mo_X8_takeFrom kl_X10_166 [7, 8, 9, 1, 2, 3] [0, 4, 5, 6, 0, 0, 0, 1, 2, 3, 0, 0] rfl (by decide +kernel) rfl rfl (fun _ => Nat.le_of_ble_eq_true rfl) 7 8 rfl rfl (As := [.ref s]) (st := []) (cs' := (0, 0)) rfl rfl rfl rfl dX10_taught_24 (fun u_2 hp_3 ws_5 hw_4 => ?_)
  have hw_4x : ws_5 = [(x0, .inr (10, [.ref t, .ref d, .ref h, .ref s, .ref o, .ref p, .ref p2, .ref ru, .ref cu, .ref br, .ref bt])), (s, .inr (8, [.ref h, .ref sw, .ref sg, .int day])), (sw, .inl (V.2.2.1, 7, .inl w)), (sg, .inl (V.2.2.1, 7, .inl g)), (ru, .inr (6, [.ref ruc, .ref rum, .int (nI z)])), (ruc, .inl (V.2.2.1, 6, .inl (nIf rc))), (rum, .inl (V.2.2.1, 6, .inl rm)), (o, .inr (8, [.ref h, .ref ow_, .ref og_, .int day])), (ow_, .inl (V.2.2.1, 7, .inl w)), (og_, .inl (V.2.2.1, 7, .inl g)), (h, .inr (4, [.ref hk, .ref hfw, .ref hfg, .ref hwb, .ref hld, .ref hte, .ref hpu, .int (nI n), .int hwa, .int (nI m), .ref hnu, .int hto])), (hk, .inl (V.2.2.1, 7, .inl k))] := hw_4.symm
  clear hw_4; subst hw_4x
  refine g_iconst X (0) dX10_taught_27 (by decide) ?_
  refine g_istore X (L' := [some (.ref x0), some (.int 0), some (.int 0), some (.int (-4)), some (.int 0), none]) dX10_taught_28 (by decide) rfl rfl ?_
  have loop30_7 : ∀ (d30 a : Nat), a + d30 = n → ∀ (mc : Nat) (fi : Int32) (hmc : mc ≤ 7 * a) (h1 : (mc, fi) = it (tauP k day n w z rc rm) a (0, -4)), G V Z 6 (0, 0) [(x0, .inr (10, [.ref t, .ref d, .ref h, .ref s, .ref o, .ref p, .ref p2, .ref ru, .ref cu, .ref br, .ref bt])), (s, .inr (8, [.ref h, .ref sw, .ref sg, .int day])), (sw, .inl (V.2.2.1, 7, .inl w)), (sg, .inl (V.2.2.1, 7, .inl g)), (ru, .inr (6, [.ref ruc, .ref rum, .int (nI z)])), (ruc, .inl (V.2.2.1, 6, .inl (nIf rc))), (rum, .inl (V.2.2.1, 6, .inl rm)), (o, .inr (8, [.ref h, .ref ow_, .ref og_, .int day])), (ow_, .inl (V.2.2.1, 7, .inl w)), (og_, .inl (V.2.2.1, 7, .inl g)), (h, .inr (4, [.ref hk, .ref hfw, .ref hfg, .ref hwb, .ref hld, .ref hte, .ref hpu, .int (nI n), .int hwa, .int (nI m), .ref hnu, .int hto])), (hk, .inl (V.2.2.1, 7, .inl k))] 30 [some (.ref x0), some (.int 0), some (.int (nI mc)), some (.int fi), some (.int (nI a)), none] [] := by
    intro d30
    induction d30 with
    | zero =>
      intro a ha mc fi hmc h1
      refine g_iload X dX10_taught_30 rfl ?_
      refine g_aload_n X dX10_taught_32 rfl ?_
      refine g_get X uwX10 0 rfl rfl 2 (by decide) kl_X10_23 rfl rfl gwX10 dX10_taught_33 ?_
      refine g_getN X uwX4 10 rfl rfl 7 (by decide) kl_X10_104 rfl rfl gwX4 dX10_taught_36 ?_
      refine g_icmp_ge X 118 dX10_taught_39 (by decide) (fun c39_8 => ?_) (fun c39_8 => absurd (tge (a := a) (b := n) (by omega) (by omega) (by omega)) c39_8)
      refine g_iload_n X dX10_taught_118 rfl ?_
      refine g_if_ne X 126 dX10_taught_119 (by decide) (fun c119_9 => absurd (by decide) c119_9) (fun c119_9 => ?_)
      refine g_iload_n X dX10_taught_122 rfl ?_
      refine g_goto X 127 dX10_taught_123 (by decide) ?_
      exact g_iret X E dX10_taught_127 () (nI mc) (by have e : a = n := (by omega); subst e; rw [tauF, ← h1]) rfl
    | succ d30 ih30 =>
      intro a ha mc fi hmc h1
      refine g_iload X dX10_taught_30 rfl ?_
      refine g_aload_n X dX10_taught_32 rfl ?_
      refine g_get X uwX10 0 rfl rfl 2 (by decide) kl_X10_23 rfl rfl gwX10 dX10_taught_33 ?_
      refine g_getN X uwX4 10 rfl rfl 7 (by decide) kl_X10_104 rfl rfl gwX4 dX10_taught_36 ?_
      refine g_icmp_ge X 118 dX10_taught_39 (by decide) (fun c39_10 => absurd c39_10 (fge (a := a) (b := n) (by omega) (by omega) (by omega))) (fun c39_10 => ?_)
      refine g_iconst X (0) dX10_taught_42 (by decide) ?_
      refine g_istore X (L' := [some (.ref x0), some (.int 0), some (.int (nI mc)), some (.int fi), some (.int (nI a)), some (.int 0)]) dX10_taught_43 (by decide) rfl rfl ?_
      have loop45_11 : ∀ (d45 b : Nat), b + d45 = n → ∀ (mc2 : Nat) (fi2 : Int32) (hmc2 : mc2 ≤ 7 * a + b) (h2 : (mc2, fi2) = it (tauQ k day w z rc rm a) b (mc, fi)), G V Z 6 (0, 0) [(x0, .inr (10, [.ref t, .ref d, .ref h, .ref s, .ref o, .ref p, .ref p2, .ref ru, .ref cu, .ref br, .ref bt])), (s, .inr (8, [.ref h, .ref sw, .ref sg, .int day])), (sw, .inl (V.2.2.1, 7, .inl w)), (sg, .inl (V.2.2.1, 7, .inl g)), (ru, .inr (6, [.ref ruc, .ref rum, .int (nI z)])), (ruc, .inl (V.2.2.1, 6, .inl (nIf rc))), (rum, .inl (V.2.2.1, 6, .inl rm)), (o, .inr (8, [.ref h, .ref ow_, .ref og_, .int day])), (ow_, .inl (V.2.2.1, 7, .inl w)), (og_, .inl (V.2.2.1, 7, .inl g)), (h, .inr (4, [.ref hk, .ref hfw, .ref hfg, .ref hwb, .ref hld, .ref hte, .ref hpu, .int (nI n), .int hwa, .int (nI m), .ref hnu, .int hto])), (hk, .inl (V.2.2.1, 7, .inl k))] 45 [some (.ref x0), some (.int 0), some (.int (nI mc2)), some (.int fi2), some (.int (nI a)), some (.int (nI b))] [] := by
        intro d45
        induction d45 with
        | zero =>
          intro b hb mc2 fi2 hmc2 h2
          refine g_iload X dX10_taught_45 rfl ?_
          refine g_aload_n X dX10_taught_47 rfl ?_
          refine g_get X uwX10 0 rfl rfl 2 (by decide) kl_X10_23 rfl rfl gwX10 dX10_taught_48 ?_
          refine g_getN X uwX4 10 rfl rfl 7 (by decide) kl_X10_104 rfl rfl gwX4 dX10_taught_51 ?_
          refine g_icmp_ge X 112 dX10_taught_54 (by decide) (fun c54_12 => ?_) (fun c54_12 => absurd (tge (a := b) (b := n) (by omega) (by omega) (by omega)) c54_12)
          refine g_iinc X (v := nI (a + 1)) (L' := [some (.ref x0), some (.int 0), some (.int (nI mc2)), some (.int fi2), some (.int (nI (a + 1))), some (.int (nI b))]) dX10_taught_112 rfl (nI_addk (by decide)) (by decide) rfl rfl ?_
          refine g_goto X 30 dX10_taught_115 (by decide) ?_
          refine g_sub (L' := [some (.ref x0), some (.int 0), some (.int (nI mc2)), some (.int fi2), some (.int (nI (a + 1))), none]) ⟨rfl, ⟨rfl, ⟨rfl, ⟨rfl, ⟨rfl, trivial⟩⟩⟩⟩⟩ ?_
          exact ih30 (a + 1) (by omega) mc2 fi2 (by omega) (by have e : b = n := (by omega); subst e; rw [it_s, ← h1, tauP, ← h2])
        | succ d45 ih45 =>
          intro b hb mc2 fi2 hmc2 h2
          refine g_iload X dX10_taught_45 rfl ?_
          refine g_aload_n X dX10_taught_47 rfl ?_
          refine g_get X uwX10 0 rfl rfl 2 (by decide) kl_X10_23 rfl rfl gwX10 dX10_taught_48 ?_
          refine g_getN X uwX4 10 rfl rfl 7 (by decide) kl_X10_104 rfl rfl gwX4 dX10_taught_51 ?_
          refine g_icmp_ge X 112 dX10_taught_54 (by decide) (fun c54_13 => absurd c54_13 (fge (a := b) (b := n) (by omega) (by omega) (by omega))) (fun c54_13 => ?_)
          refine g_iload X dX10_taught_57 rfl ?_
          refine g_iload X dX10_taught_59 rfl ?_
          refine g_icmp_eq X 106 dX10_taught_61 (by decide) (fun c61_14 => ?_) (fun c61_14 => ?_)
          · have c61_14n := ieq' (a := a) (b := b) c61_14 (by omega) (by omega)
            refine g_iinc X (v := nI (b + 1)) (L' := [some (.ref x0), some (.int 0), some (.int (nI mc2)), some (.int fi2), some (.int (nI a)), some (.int (nI (b + 1)))]) dX10_taught_106 rfl (nI_addk (by decide)) (by decide) rfl rfl ?_
            refine g_goto X 45 dX10_taught_109 (by decide) ?_
            exact ih45 (b + 1) (by omega) mc2 fi2 (by omega) (by rw [it_s, ← h2, tauQ]; simp [c61_14, c61_14n])
          · have c61_14n := ine' (a := a) (b := b) c61_14 (by omega) (by omega)
            refine g_aload_n X dX10_taught_64 rfl ?_
            refine g_get X uwX10 0 rfl rfl 3 (by decide) kl_X10_31 rfl rfl gwX10 dX10_taught_65 ?_
            refine g_iload X dX10_taught_68 rfl ?_
            refine g_callVi X (c_X8_canLearn V s sw sg day h hk hfw hfg hwb hld hte hpu hnu n m hwa hto k b (by omega)) mo_X8_canLearn kl_X10_150 [1, 10, 11] [0, 1, 0, 0, 0, 0, 0, 0, 0, 0, 2, 3] rfl (by decide +kernel) rfl rfl (fun _ => Nat.le_of_ble_eq_true rfl) 1 8 rfl rfl (As := [.int (nI b)]) (st := []) (cs' := (0, 0)) rfl rfl rfl rfl dX10_taught_70 (fun r_19 u_15 hp_16 ws_18 hw_17 => ?_)
            obtain rfl : r_19 = canF (k b) day := hp_16
            have hw_17x : ws_18 = [(x0, .inr (10, [.ref t, .ref d, .ref h, .ref s, .ref o, .ref p, .ref p2, .ref ru, .ref cu, .ref br, .ref bt])), (s, .inr (8, [.ref h, .ref sw, .ref sg, .int day])), (sw, .inl (V.2.2.1, 7, .inl w)), (sg, .inl (V.2.2.1, 7, .inl g)), (ru, .inr (6, [.ref ruc, .ref rum, .int (nI z)])), (ruc, .inl (V.2.2.1, 6, .inl (nIf rc))), (rum, .inl (V.2.2.1, 6, .inl rm)), (o, .inr (8, [.ref h, .ref ow_, .ref og_, .int day])), (ow_, .inl (V.2.2.1, 7, .inl w)), (og_, .inl (V.2.2.1, 7, .inl g)), (h, .inr (4, [.ref hk, .ref hfw, .ref hfg, .ref hwb, .ref hld, .ref hte, .ref hpu, .int (nI n), .int hwa, .int (nI m), .ref hnu, .int hto])), (hk, .inl (V.2.2.1, 7, .inl k))] := hw_17.symm
            clear hw_17; subst hw_17x
            refine g_if_eq X 106 dX10_taught_73 (by decide) (fun c73_20 => ?_) (fun c73_20 => ?_)
            · refine g_iinc X (v := nI (b + 1)) (L' := [some (.ref x0), some (.int 0), some (.int (nI mc2)), some (.int fi2), some (.int (nI a)), some (.int (nI (b + 1)))]) dX10_taught_106 rfl (nI_addk (by decide)) (by decide) rfl rfl ?_
              refine g_goto X 45 dX10_taught_109 (by decide) ?_
              exact ih45 (b + 1) (by omega) mc2 fi2 (by omega) (by rw [it_s, ← h2, tauQ]; simp [c61_14, c61_14n, c73_20])
            · refine g_aload_n X dX10_taught_76 rfl ?_
              refine g_iload X dX10_taught_77 rfl ?_
              refine g_iload X dX10_taught_79 rfl ?_
              refine g_callVi X (c_X10_isHeard V x0 t d h s o p p2 ru cu br bt hk hfw hfg hwb hld hte hpu hnu n m hwa hto k ruc rum z rc rm ow_ og_ day w a b (by omega) hB hz hr (by omega) (by omega)) mo_X10_isHeardWhenTaught kl_X10_213 [0, 4, 5, 6, 7, 8, 10, 11] [1, 0, 0, 0, 2, 3, 4, 5, 6, 0, 7, 8] rfl (by decide +kernel) rfl rfl (fun _ => Nat.le_of_ble_eq_true rfl) 0 10 rfl rfl (As := [.int (nI a), .int (nI b)]) (st := []) (cs' := (0, 0)) rfl rfl rfl rfl dX10_taught_81 (fun r_25 u_21 hp_22 ws_24 hw_23 => ?_)
              obtain rfl : r_25 = fitF z rc rm (learnF k day a b w) := hp_22
              have hw_23x : ws_24 = [(x0, .inr (10, [.ref t, .ref d, .ref h, .ref s, .ref o, .ref p, .ref p2, .ref ru, .ref cu, .ref br, .ref bt])), (s, .inr (8, [.ref h, .ref sw, .ref sg, .int day])), (sw, .inl (V.2.2.1, 7, .inl w)), (sg, .inl (V.2.2.1, 7, .inl g)), (ru, .inr (6, [.ref ruc, .ref rum, .int (nI z)])), (ruc, .inl (V.2.2.1, 6, .inl (nIf rc))), (rum, .inl (V.2.2.1, 6, .inl rm)), (o, .inr (8, [.ref h, .ref ow_, .ref og_, .int day])), (ow_, .inl (V.2.2.1, 7, .inl w)), (og_, .inl (V.2.2.1, 7, .inl g)), (h, .inr (4, [.ref hk, .ref hfw, .ref hfg, .ref hwb, .ref hld, .ref hte, .ref hpu, .int (nI n), .int hwa, .int (nI m), .ref hnu, .int hto])), (hk, .inl (V.2.2.1, 7, .inl k))] := hw_23.symm
              clear hw_23; subst hw_23x
              refine g_if_eq X 106 dX10_taught_84 (by decide) (fun c84_26 => ?_) (fun c84_26 => ?_)
              · refine g_iinc X (v := nI (b + 1)) (L' := [some (.ref x0), some (.int 0), some (.int (nI mc2)), some (.int fi2), some (.int (nI a)), some (.int (nI (b + 1)))]) dX10_taught_106 rfl (nI_addk (by decide)) (by decide) rfl rfl ?_
                refine g_goto X 45 dX10_taught_109 (by decide) ?_
                exact ih45 (b + 1) (by omega) mc2 fi2 (by omega) (by rw [it_s, ← h2, tauQ]; simp [c61_14, c61_14n, c73_20, c84_26])
              · refine g_iload_n X dX10_taught_87 rfl ?_
                refine g_if_ne X 101 dX10_taught_88 (by decide) (fun c88_27 => ?_) (fun c88_27 => ?_)
                · have c88_27n := ine' (a := mc2) (b := 0) c88_27 (by omega) (by omega)
                  refine g_iload_n X dX10_taught_101 rfl ?_
                  refine g_istore_n X (L' := [some (.ref x0), some (.int 0), some (.int (nI mc2)), some (.int fi2), some (.int (nI a)), some (.int (nI b))]) dX10_taught_102 (by decide) rfl rfl ?_
                  refine g_iinc X (v := nI (mc2 + 1)) (L' := [some (.ref x0), some (.int 0), some (.int (nI (mc2 + 1))), some (.int fi2), some (.int (nI a)), some (.int (nI b))]) dX10_taught_103 rfl (nI_addk (by decide)) (by decide) rfl rfl ?_
                  refine g_iinc X (v := nI (b + 1)) (L' := [some (.ref x0), some (.int 0), some (.int (nI (mc2 + 1))), some (.int fi2), some (.int (nI a)), some (.int (nI (b + 1)))]) dX10_taught_106 rfl (nI_addk (by decide)) (by decide) rfl rfl ?_
                  refine g_goto X 45 dX10_taught_109 (by decide) ?_
                  exact ih45 (b + 1) (by omega) (mc2 + 1) fi2 (by omega) (by rw [it_s, ← h2, tauQ]; simp [c61_14, c61_14n, c73_20, c84_26, c88_27, c88_27n])
                · have c88_27n := ieq' (a := mc2) (b := 0) c88_27 (by omega) (by omega)
                  refine g_iload X dX10_taught_91 rfl ?_
                  refine g_iload X dX10_taught_93 rfl ?_
                  refine g_callSi X (c_X10_lessonNumber V a b) mo_X10_lessonNumber kl_X10_216 [] [0, 0, 0, 0, 0, 0, 0, 0, 0, 0, 0, 0] rfl (by decide +kernel) rfl rfl (fun _ => Nat.le_of_ble_eq_true rfl) (As := [.int (nI a), .int (nI b)]) (st := []) (cs' := (0, 0)) rfl rfl rfl dX10_taught_95 (fun r_32 u_28 hp_29 ws_31 hw_30 => ?_)
                  obtain rfl : r_32 = nI (10 * a + b) := hp_29
                  have hw_30x : ws_31 = [(x0, .inr (10, [.ref t, .ref d, .ref h, .ref s, .ref o, .ref p, .ref p2, .ref ru, .ref cu, .ref br, .ref bt])), (s, .inr (8, [.ref h, .ref sw, .ref sg, .int day])), (sw, .inl (V.2.2.1, 7, .inl w)), (sg, .inl (V.2.2.1, 7, .inl g)), (ru, .inr (6, [.ref ruc, .ref rum, .int (nI z)])), (ruc, .inl (V.2.2.1, 6, .inl (nIf rc))), (rum, .inl (V.2.2.1, 6, .inl rm)), (o, .inr (8, [.ref h, .ref ow_, .ref og_, .int day])), (ow_, .inl (V.2.2.1, 7, .inl w)), (og_, .inl (V.2.2.1, 7, .inl g)), (h, .inr (4, [.ref hk, .ref hfw, .ref hfg, .ref hwb, .ref hld, .ref hte, .ref hpu, .int (nI n), .int hwa, .int (nI m), .ref hnu, .int hto])), (hk, .inl (V.2.2.1, 7, .inl k))] := hw_30.symm
                  clear hw_30; subst hw_30x
                  refine g_goto X 102 dX10_taught_98 (by decide) ?_
                  refine g_istore_n X (L' := [some (.ref x0), some (.int 0), some (.int (nI mc2)), some (.int (nI (10 * a + b))), some (.int (nI a)), some (.int (nI b))]) dX10_taught_102 (by decide) rfl rfl ?_
                  refine g_iinc X (v := nI (mc2 + 1)) (L' := [some (.ref x0), some (.int 0), some (.int (nI (mc2 + 1))), some (.int (nI (10 * a + b))), some (.int (nI a)), some (.int (nI b))]) dX10_taught_103 rfl (nI_addk (by decide)) (by decide) rfl rfl ?_
                  refine g_iinc X (v := nI (b + 1)) (L' := [some (.ref x0), some (.int 0), some (.int (nI (mc2 + 1))), some (.int (nI (10 * a + b))), some (.int (nI a)), some (.int (nI (b + 1)))]) dX10_taught_106 rfl (nI_addk (by decide)) (by decide) rfl rfl ?_
                  refine g_goto X 45 dX10_taught_109 (by decide) ?_
                  exact ih45 (b + 1) (by omega) (mc2 + 1) (nI (10 * a + b)) (by omega) (by rw [it_s, ← h2, tauQ]; simp [c61_14, c61_14n, c73_20, c84_26, c88_27, c88_27n])
      exact loop45_11 n 0 (by omega) mc fi (by omega) rfl
  exact loop30_7 n 0 (by omega) 0 (-4) (Nat.zero_le _) rfl

set_option maxHeartbeats 4000000 in
set_option maxRecDepth 100000 in
theorem m_taught_1 (V : gV) (x0 : Nat) (t : Nat) (d : Nat) (h : Nat) (s : Nat) (o : Nat) (p : Nat) (p2 : Nat) (ru : Nat) (cu : Nat) (br : Nat) (bt : Nat) (sw : Nat) (sg : Nat) (day : Int32) (w : Nat → Int32) (g : Nat → Int32) (ow_ : Nat) (og_ : Nat) (oday : Int32) (ow : Nat → Int32) (og : Nat → Int32) (hk : Nat) (hfw : Nat) (hfg : Nat) (hwb : Nat) (hld : Nat) (hte : Nat) (hpu : Nat) (hnu : Nat) (n : Nat) (m : Nat) (hwa : Int32) (hto : Int32) (k : Nat → Int32) (ruc : Nat) (rum : Nat) (z : Nat) (rc : Nat → Nat) (rm : Nat → Int32) (hn : n ≤ 7) (hB : Bd n w) (hz : z ≤ 6) (hr : ∀ i, i < z → rc i < n) : Ki V yX10_taught cX10_taught 6 .int ({ frames := 4, cells := 0, slots := 0, locals := 91 }) [.ref x0, .int 1] [(x0, .inr (10, [.ref t, .ref d, .ref h, .ref s, .ref o, .ref p, .ref p2, .ref ru, .ref cu, .ref br, .ref bt])), (s, .inr (8, [.ref h, .ref sw, .ref sg, .int day])), (sw, .inl (V.2.2.1, 7, .inl w)), (sg, .inl (V.2.2.1, 7, .inl g)), (ru, .inr (6, [.ref ruc, .ref rum, .int (nI z)])), (ruc, .inl (V.2.2.1, 6, .inl (nIf rc))), (rum, .inl (V.2.2.1, 6, .inl rm)), (o, .inr (8, [.ref h, .ref ow_, .ref og_, .int oday])), (ow_, .inl (V.2.2.1, 7, .inl ow)), (og_, .inl (V.2.2.1, 7, .inl og)), (h, .inr (4, [.ref hk, .ref hfw, .ref hfg, .ref hwb, .ref hld, .ref hte, .ref hpu, .int (nI n), .int hwa, .int (nI m), .ref hnu, .int hto])), (hk, .inl (V.2.2.1, 7, .inl k))] (fun (r : Int32) (u : Unit) => r = (tauF k day n w z rc rm).2) (fun u => [(x0, .inr (10, [.ref t, .ref d, .ref h, .ref s, .ref o, .ref p, .ref p2, .ref ru, .ref cu, .ref br, .ref bt])), (s, .inr (8, [.ref h, .ref sw, .ref sg, .int day])), (sw, .inl (V.2.2.1, 7, .inl w)), (sg, .inl (V.2.2.1, 7, .inl g)), (ru, .inr (6, [.ref ruc, .ref rum, .int (nI z)])), (ruc, .inl (V.2.2.1, 6, .inl (nIf rc))), (rum, .inl (V.2.2.1, 6, .inl rm)), (o, .inr (8, [.ref h, .ref ow_, .ref og_, .int day])), (ow_, .inl (V.2.2.1, 7, .inl w)), (og_, .inl (V.2.2.1, 7, .inl g)), (h, .inr (4, [.ref hk, .ref hfw, .ref hfg, .ref hwb, .ref hld, .ref hte, .ref hpu, .int (nI n), .int hwa, .int (nI m), .ref hnu, .int hto])), (hk, .inl (V.2.2.1, 7, .inl k))]) := by
  refine Ki.of [some (.ref x0), some (.int 1), none, none, none, none] (by decide) (Nat.le_of_ble_eq_true rfl) rfl rfl ?_
  intro Z X E
  have X : gX V Z RX10 cX10_taught 6 ({ frames := 4, cells := 0, slots := 0, locals := 91 }) := X
  refine g_iload_n X dX10_taught_0 rfl ?_
  refine g_if_eq X 11 dX10_taught_1 (by decide) (fun c1_1 => absurd c1_1 (by decide)) (fun c1_1 => ?_)
  refine g_iload_n X dX10_taught_4 rfl ?_
  refine g_iconst X (1) dX10_taught_5 (by decide) ?_
  refine g_icmp_eq X 11 dX10_taught_6 (by decide) (fun c6_2 => ?_) (fun c6_2 => absurd (by decide) c6_2)
  refine g_iconst X (0) dX10_taught_11 (by decide) ?_
  refine g_istore_n X (L' := [some (.ref x0), some (.int 1), some (.int 0), none, none, none]) dX10_taught_12 (by decide) rfl rfl ?_
  refine g_bipush X (-4) dX10_taught_13 (by decide) ?_
  refine g_istore_n X (L' := [some (.ref x0), some (.int 1), some (.int 0), some (.int (-4)), none, none]) dX10_taught_15 (by decide) rfl rfl ?_
  refine g_aload_n X dX10_taught_16 rfl ?_
  refine g_get X uwX10 0 rfl rfl 4 (by decide) kl_X10_35 rfl rfl gwX10 dX10_taught_17 ?_
  refine g_aload_n X dX10_taught_20 rfl ?_
  refine g_get X uwX10 0 rfl rfl 3 (by decide) kl_X10_31 rfl rfl gwX10 dX10_taught_21 ?_
  refine g_callVv X (c_X8_takeFrom V o ow_ og_ oday ow og h s sw sg h day w g) mo_X8_takeFrom kl_X10_166 [7, 8, 9, 1, 2, 3] [0, 4, 5, 6, 0, 0, 0, 1, 2, 3, 0, 0] rfl (by decide +kernel) rfl rfl (fun _ => Nat.le_of_ble_eq_true rfl) 7 8 rfl rfl (As := [.ref s]) (st := []) (cs' := (0, 0)) rfl rfl rfl rfl dX10_taught_24 (fun u_3 hp_4 ws_6 hw_5 => ?_)
  have hw_5x : ws_6 = [(x0, .inr (10, [.ref t, .ref d, .ref h, .ref s, .ref o, .ref p, .ref p2, .ref ru, .ref cu, .ref br, .ref bt])), (s, .inr (8, [.ref h, .ref sw, .ref sg, .int day])), (sw, .inl (V.2.2.1, 7, .inl w)), (sg, .inl (V.2.2.1, 7, .inl g)), (ru, .inr (6, [.ref ruc, .ref rum, .int (nI z)])), (ruc, .inl (V.2.2.1, 6, .inl (nIf rc))), (rum, .inl (V.2.2.1, 6, .inl rm)), (o, .inr (8, [.ref h, .ref ow_, .ref og_, .int day])), (ow_, .inl (V.2.2.1, 7, .inl w)), (og_, .inl (V.2.2.1, 7, .inl g)), (h, .inr (4, [.ref hk, .ref hfw, .ref hfg, .ref hwb, .ref hld, .ref hte, .ref hpu, .int (nI n), .int hwa, .int (nI m), .ref hnu, .int hto])), (hk, .inl (V.2.2.1, 7, .inl k))] := hw_5.symm
  clear hw_5; subst hw_5x
  refine g_iconst X (0) dX10_taught_27 (by decide) ?_
  refine g_istore X (L' := [some (.ref x0), some (.int 1), some (.int 0), some (.int (-4)), some (.int 0), none]) dX10_taught_28 (by decide) rfl rfl ?_
  have loop30_8 : ∀ (d30 a : Nat), a + d30 = n → ∀ (mc : Nat) (fi : Int32) (hmc : mc ≤ 7 * a) (h1 : (mc, fi) = it (tauP k day n w z rc rm) a (0, -4)), G V Z 6 (0, 0) [(x0, .inr (10, [.ref t, .ref d, .ref h, .ref s, .ref o, .ref p, .ref p2, .ref ru, .ref cu, .ref br, .ref bt])), (s, .inr (8, [.ref h, .ref sw, .ref sg, .int day])), (sw, .inl (V.2.2.1, 7, .inl w)), (sg, .inl (V.2.2.1, 7, .inl g)), (ru, .inr (6, [.ref ruc, .ref rum, .int (nI z)])), (ruc, .inl (V.2.2.1, 6, .inl (nIf rc))), (rum, .inl (V.2.2.1, 6, .inl rm)), (o, .inr (8, [.ref h, .ref ow_, .ref og_, .int day])), (ow_, .inl (V.2.2.1, 7, .inl w)), (og_, .inl (V.2.2.1, 7, .inl g)), (h, .inr (4, [.ref hk, .ref hfw, .ref hfg, .ref hwb, .ref hld, .ref hte, .ref hpu, .int (nI n), .int hwa, .int (nI m), .ref hnu, .int hto])), (hk, .inl (V.2.2.1, 7, .inl k))] 30 [some (.ref x0), some (.int 1), some (.int (nI mc)), some (.int fi), some (.int (nI a)), none] [] := by
    intro d30
    induction d30 with
    | zero =>
      intro a ha mc fi hmc h1
      refine g_iload X dX10_taught_30 rfl ?_
      refine g_aload_n X dX10_taught_32 rfl ?_
      refine g_get X uwX10 0 rfl rfl 2 (by decide) kl_X10_23 rfl rfl gwX10 dX10_taught_33 ?_
      refine g_getN X uwX4 10 rfl rfl 7 (by decide) kl_X10_104 rfl rfl gwX4 dX10_taught_36 ?_
      refine g_icmp_ge X 118 dX10_taught_39 (by decide) (fun c39_9 => ?_) (fun c39_9 => absurd (tge (a := a) (b := n) (by omega) (by omega) (by omega)) c39_9)
      refine g_iload_n X dX10_taught_118 rfl ?_
      refine g_if_ne X 126 dX10_taught_119 (by decide) (fun c119_10 => ?_) (fun c119_10 => absurd c119_10 (by decide))
      refine g_iload_n X dX10_taught_126 rfl ?_
      exact g_iret X E dX10_taught_127 () fi (by have e : a = n := (by omega); subst e; rw [tauF, ← h1]) rfl
    | succ d30 ih30 =>
      intro a ha mc fi hmc h1
      refine g_iload X dX10_taught_30 rfl ?_
      refine g_aload_n X dX10_taught_32 rfl ?_
      refine g_get X uwX10 0 rfl rfl 2 (by decide) kl_X10_23 rfl rfl gwX10 dX10_taught_33 ?_
      refine g_getN X uwX4 10 rfl rfl 7 (by decide) kl_X10_104 rfl rfl gwX4 dX10_taught_36 ?_
      refine g_icmp_ge X 118 dX10_taught_39 (by decide) (fun c39_11 => absurd c39_11 (fge (a := a) (b := n) (by omega) (by omega) (by omega))) (fun c39_11 => ?_)
      refine g_iconst X (0) dX10_taught_42 (by decide) ?_
      refine g_istore X (L' := [some (.ref x0), some (.int 1), some (.int (nI mc)), some (.int fi), some (.int (nI a)), some (.int 0)]) dX10_taught_43 (by decide) rfl rfl ?_
      have loop45_12 : ∀ (d45 b : Nat), b + d45 = n → ∀ (mc2 : Nat) (fi2 : Int32) (hmc2 : mc2 ≤ 7 * a + b) (h2 : (mc2, fi2) = it (tauQ k day w z rc rm a) b (mc, fi)), G V Z 6 (0, 0) [(x0, .inr (10, [.ref t, .ref d, .ref h, .ref s, .ref o, .ref p, .ref p2, .ref ru, .ref cu, .ref br, .ref bt])), (s, .inr (8, [.ref h, .ref sw, .ref sg, .int day])), (sw, .inl (V.2.2.1, 7, .inl w)), (sg, .inl (V.2.2.1, 7, .inl g)), (ru, .inr (6, [.ref ruc, .ref rum, .int (nI z)])), (ruc, .inl (V.2.2.1, 6, .inl (nIf rc))), (rum, .inl (V.2.2.1, 6, .inl rm)), (o, .inr (8, [.ref h, .ref ow_, .ref og_, .int day])), (ow_, .inl (V.2.2.1, 7, .inl w)), (og_, .inl (V.2.2.1, 7, .inl g)), (h, .inr (4, [.ref hk, .ref hfw, .ref hfg, .ref hwb, .ref hld, .ref hte, .ref hpu, .int (nI n), .int hwa, .int (nI m), .ref hnu, .int hto])), (hk, .inl (V.2.2.1, 7, .inl k))] 45 [some (.ref x0), some (.int 1), some (.int (nI mc2)), some (.int fi2), some (.int (nI a)), some (.int (nI b))] [] := by
        intro d45
        induction d45 with
        | zero =>
          intro b hb mc2 fi2 hmc2 h2
          refine g_iload X dX10_taught_45 rfl ?_
          refine g_aload_n X dX10_taught_47 rfl ?_
          refine g_get X uwX10 0 rfl rfl 2 (by decide) kl_X10_23 rfl rfl gwX10 dX10_taught_48 ?_
          refine g_getN X uwX4 10 rfl rfl 7 (by decide) kl_X10_104 rfl rfl gwX4 dX10_taught_51 ?_
          refine g_icmp_ge X 112 dX10_taught_54 (by decide) (fun c54_13 => ?_) (fun c54_13 => absurd (tge (a := b) (b := n) (by omega) (by omega) (by omega)) c54_13)
          refine g_iinc X (v := nI (a + 1)) (L' := [some (.ref x0), some (.int 1), some (.int (nI mc2)), some (.int fi2), some (.int (nI (a + 1))), some (.int (nI b))]) dX10_taught_112 rfl (nI_addk (by decide)) (by decide) rfl rfl ?_
          refine g_goto X 30 dX10_taught_115 (by decide) ?_
          refine g_sub (L' := [some (.ref x0), some (.int 1), some (.int (nI mc2)), some (.int fi2), some (.int (nI (a + 1))), none]) ⟨rfl, ⟨rfl, ⟨rfl, ⟨rfl, ⟨rfl, trivial⟩⟩⟩⟩⟩ ?_
          exact ih30 (a + 1) (by omega) mc2 fi2 (by omega) (by have e : b = n := (by omega); subst e; rw [it_s, ← h1, tauP, ← h2])
        | succ d45 ih45 =>
          intro b hb mc2 fi2 hmc2 h2
          refine g_iload X dX10_taught_45 rfl ?_
          refine g_aload_n X dX10_taught_47 rfl ?_
          refine g_get X uwX10 0 rfl rfl 2 (by decide) kl_X10_23 rfl rfl gwX10 dX10_taught_48 ?_
          refine g_getN X uwX4 10 rfl rfl 7 (by decide) kl_X10_104 rfl rfl gwX4 dX10_taught_51 ?_
          refine g_icmp_ge X 112 dX10_taught_54 (by decide) (fun c54_14 => absurd c54_14 (fge (a := b) (b := n) (by omega) (by omega) (by omega))) (fun c54_14 => ?_)
          refine g_iload X dX10_taught_57 rfl ?_
          refine g_iload X dX10_taught_59 rfl ?_
          refine g_icmp_eq X 106 dX10_taught_61 (by decide) (fun c61_15 => ?_) (fun c61_15 => ?_)
          · have c61_15n := ieq' (a := a) (b := b) c61_15 (by omega) (by omega)
            refine g_iinc X (v := nI (b + 1)) (L' := [some (.ref x0), some (.int 1), some (.int (nI mc2)), some (.int fi2), some (.int (nI a)), some (.int (nI (b + 1)))]) dX10_taught_106 rfl (nI_addk (by decide)) (by decide) rfl rfl ?_
            refine g_goto X 45 dX10_taught_109 (by decide) ?_
            exact ih45 (b + 1) (by omega) mc2 fi2 (by omega) (by rw [it_s, ← h2, tauQ]; simp [c61_15, c61_15n])
          · have c61_15n := ine' (a := a) (b := b) c61_15 (by omega) (by omega)
            refine g_aload_n X dX10_taught_64 rfl ?_
            refine g_get X uwX10 0 rfl rfl 3 (by decide) kl_X10_31 rfl rfl gwX10 dX10_taught_65 ?_
            refine g_iload X dX10_taught_68 rfl ?_
            refine g_callVi X (c_X8_canLearn V s sw sg day h hk hfw hfg hwb hld hte hpu hnu n m hwa hto k b (by omega)) mo_X8_canLearn kl_X10_150 [1, 10, 11] [0, 1, 0, 0, 0, 0, 0, 0, 0, 0, 2, 3] rfl (by decide +kernel) rfl rfl (fun _ => Nat.le_of_ble_eq_true rfl) 1 8 rfl rfl (As := [.int (nI b)]) (st := []) (cs' := (0, 0)) rfl rfl rfl rfl dX10_taught_70 (fun r_20 u_16 hp_17 ws_19 hw_18 => ?_)
            obtain rfl : r_20 = canF (k b) day := hp_17
            have hw_18x : ws_19 = [(x0, .inr (10, [.ref t, .ref d, .ref h, .ref s, .ref o, .ref p, .ref p2, .ref ru, .ref cu, .ref br, .ref bt])), (s, .inr (8, [.ref h, .ref sw, .ref sg, .int day])), (sw, .inl (V.2.2.1, 7, .inl w)), (sg, .inl (V.2.2.1, 7, .inl g)), (ru, .inr (6, [.ref ruc, .ref rum, .int (nI z)])), (ruc, .inl (V.2.2.1, 6, .inl (nIf rc))), (rum, .inl (V.2.2.1, 6, .inl rm)), (o, .inr (8, [.ref h, .ref ow_, .ref og_, .int day])), (ow_, .inl (V.2.2.1, 7, .inl w)), (og_, .inl (V.2.2.1, 7, .inl g)), (h, .inr (4, [.ref hk, .ref hfw, .ref hfg, .ref hwb, .ref hld, .ref hte, .ref hpu, .int (nI n), .int hwa, .int (nI m), .ref hnu, .int hto])), (hk, .inl (V.2.2.1, 7, .inl k))] := hw_18.symm
            clear hw_18; subst hw_18x
            refine g_if_eq X 106 dX10_taught_73 (by decide) (fun c73_21 => ?_) (fun c73_21 => ?_)
            · refine g_iinc X (v := nI (b + 1)) (L' := [some (.ref x0), some (.int 1), some (.int (nI mc2)), some (.int fi2), some (.int (nI a)), some (.int (nI (b + 1)))]) dX10_taught_106 rfl (nI_addk (by decide)) (by decide) rfl rfl ?_
              refine g_goto X 45 dX10_taught_109 (by decide) ?_
              exact ih45 (b + 1) (by omega) mc2 fi2 (by omega) (by rw [it_s, ← h2, tauQ]; simp [c61_15, c61_15n, c73_21])
            · refine g_aload_n X dX10_taught_76 rfl ?_
              refine g_iload X dX10_taught_77 rfl ?_
              refine g_iload X dX10_taught_79 rfl ?_
              refine g_callVi X (c_X10_isHeard V x0 t d h s o p p2 ru cu br bt hk hfw hfg hwb hld hte hpu hnu n m hwa hto k ruc rum z rc rm ow_ og_ day w a b (by omega) hB hz hr (by omega) (by omega)) mo_X10_isHeardWhenTaught kl_X10_213 [0, 4, 5, 6, 7, 8, 10, 11] [1, 0, 0, 0, 2, 3, 4, 5, 6, 0, 7, 8] rfl (by decide +kernel) rfl rfl (fun _ => Nat.le_of_ble_eq_true rfl) 0 10 rfl rfl (As := [.int (nI a), .int (nI b)]) (st := []) (cs' := (0, 0)) rfl rfl rfl rfl dX10_taught_81 (fun r_26 u_22 hp_23 ws_25 hw_24 => ?_)
              obtain rfl : r_26 = fitF z rc rm (learnF k day a b w) := hp_23
              have hw_24x : ws_25 = [(x0, .inr (10, [.ref t, .ref d, .ref h, .ref s, .ref o, .ref p, .ref p2, .ref ru, .ref cu, .ref br, .ref bt])), (s, .inr (8, [.ref h, .ref sw, .ref sg, .int day])), (sw, .inl (V.2.2.1, 7, .inl w)), (sg, .inl (V.2.2.1, 7, .inl g)), (ru, .inr (6, [.ref ruc, .ref rum, .int (nI z)])), (ruc, .inl (V.2.2.1, 6, .inl (nIf rc))), (rum, .inl (V.2.2.1, 6, .inl rm)), (o, .inr (8, [.ref h, .ref ow_, .ref og_, .int day])), (ow_, .inl (V.2.2.1, 7, .inl w)), (og_, .inl (V.2.2.1, 7, .inl g)), (h, .inr (4, [.ref hk, .ref hfw, .ref hfg, .ref hwb, .ref hld, .ref hte, .ref hpu, .int (nI n), .int hwa, .int (nI m), .ref hnu, .int hto])), (hk, .inl (V.2.2.1, 7, .inl k))] := hw_24.symm
              clear hw_24; subst hw_24x
              refine g_if_eq X 106 dX10_taught_84 (by decide) (fun c84_27 => ?_) (fun c84_27 => ?_)
              · refine g_iinc X (v := nI (b + 1)) (L' := [some (.ref x0), some (.int 1), some (.int (nI mc2)), some (.int fi2), some (.int (nI a)), some (.int (nI (b + 1)))]) dX10_taught_106 rfl (nI_addk (by decide)) (by decide) rfl rfl ?_
                refine g_goto X 45 dX10_taught_109 (by decide) ?_
                exact ih45 (b + 1) (by omega) mc2 fi2 (by omega) (by rw [it_s, ← h2, tauQ]; simp [c61_15, c61_15n, c73_21, c84_27])
              · refine g_iload_n X dX10_taught_87 rfl ?_
                refine g_if_ne X 101 dX10_taught_88 (by decide) (fun c88_28 => ?_) (fun c88_28 => ?_)
                · have c88_28n := ine' (a := mc2) (b := 0) c88_28 (by omega) (by omega)
                  refine g_iload_n X dX10_taught_101 rfl ?_
                  refine g_istore_n X (L' := [some (.ref x0), some (.int 1), some (.int (nI mc2)), some (.int fi2), some (.int (nI a)), some (.int (nI b))]) dX10_taught_102 (by decide) rfl rfl ?_
                  refine g_iinc X (v := nI (mc2 + 1)) (L' := [some (.ref x0), some (.int 1), some (.int (nI (mc2 + 1))), some (.int fi2), some (.int (nI a)), some (.int (nI b))]) dX10_taught_103 rfl (nI_addk (by decide)) (by decide) rfl rfl ?_
                  refine g_iinc X (v := nI (b + 1)) (L' := [some (.ref x0), some (.int 1), some (.int (nI (mc2 + 1))), some (.int fi2), some (.int (nI a)), some (.int (nI (b + 1)))]) dX10_taught_106 rfl (nI_addk (by decide)) (by decide) rfl rfl ?_
                  refine g_goto X 45 dX10_taught_109 (by decide) ?_
                  exact ih45 (b + 1) (by omega) (mc2 + 1) fi2 (by omega) (by rw [it_s, ← h2, tauQ]; simp [c61_15, c61_15n, c73_21, c84_27, c88_28, c88_28n])
                · have c88_28n := ieq' (a := mc2) (b := 0) c88_28 (by omega) (by omega)
                  refine g_iload X dX10_taught_91 rfl ?_
                  refine g_iload X dX10_taught_93 rfl ?_
                  refine g_callSi X (c_X10_lessonNumber V a b) mo_X10_lessonNumber kl_X10_216 [] [0, 0, 0, 0, 0, 0, 0, 0, 0, 0, 0, 0] rfl (by decide +kernel) rfl rfl (fun _ => Nat.le_of_ble_eq_true rfl) (As := [.int (nI a), .int (nI b)]) (st := []) (cs' := (0, 0)) rfl rfl rfl dX10_taught_95 (fun r_33 u_29 hp_30 ws_32 hw_31 => ?_)
                  obtain rfl : r_33 = nI (10 * a + b) := hp_30
                  have hw_31x : ws_32 = [(x0, .inr (10, [.ref t, .ref d, .ref h, .ref s, .ref o, .ref p, .ref p2, .ref ru, .ref cu, .ref br, .ref bt])), (s, .inr (8, [.ref h, .ref sw, .ref sg, .int day])), (sw, .inl (V.2.2.1, 7, .inl w)), (sg, .inl (V.2.2.1, 7, .inl g)), (ru, .inr (6, [.ref ruc, .ref rum, .int (nI z)])), (ruc, .inl (V.2.2.1, 6, .inl (nIf rc))), (rum, .inl (V.2.2.1, 6, .inl rm)), (o, .inr (8, [.ref h, .ref ow_, .ref og_, .int day])), (ow_, .inl (V.2.2.1, 7, .inl w)), (og_, .inl (V.2.2.1, 7, .inl g)), (h, .inr (4, [.ref hk, .ref hfw, .ref hfg, .ref hwb, .ref hld, .ref hte, .ref hpu, .int (nI n), .int hwa, .int (nI m), .ref hnu, .int hto])), (hk, .inl (V.2.2.1, 7, .inl k))] := hw_31.symm
                  clear hw_31; subst hw_31x
                  refine g_goto X 102 dX10_taught_98 (by decide) ?_
                  refine g_istore_n X (L' := [some (.ref x0), some (.int 1), some (.int (nI mc2)), some (.int (nI (10 * a + b))), some (.int (nI a)), some (.int (nI b))]) dX10_taught_102 (by decide) rfl rfl ?_
                  refine g_iinc X (v := nI (mc2 + 1)) (L' := [some (.ref x0), some (.int 1), some (.int (nI (mc2 + 1))), some (.int (nI (10 * a + b))), some (.int (nI a)), some (.int (nI b))]) dX10_taught_103 rfl (nI_addk (by decide)) (by decide) rfl rfl ?_
                  refine g_iinc X (v := nI (b + 1)) (L' := [some (.ref x0), some (.int 1), some (.int (nI (mc2 + 1))), some (.int (nI (10 * a + b))), some (.int (nI a)), some (.int (nI (b + 1)))]) dX10_taught_106 rfl (nI_addk (by decide)) (by decide) rfl rfl ?_
                  refine g_goto X 45 dX10_taught_109 (by decide) ?_
                  exact ih45 (b + 1) (by omega) (mc2 + 1) (nI (10 * a + b)) (by omega) (by rw [it_s, ← h2, tauQ]; simp [c61_15, c61_15n, c73_21, c84_27, c88_28, c88_28n])
      exact loop45_12 n 0 (by omega) mc fi (by omega) rfl
  exact loop30_8 n 0 (by omega) 0 (-4) (Nat.zero_le _) rfl

set_option maxHeartbeats 4000000 in
set_option maxRecDepth 100000 in
theorem m_setter_bad (V : gV) (x0 : Nat) (t : Nat) (d : Nat) (h : Nat) (s : Nat) (o : Nat) (p : Nat) (p2 : Nat) (ru : Nat) (cu : Nat) (br : Nat) (bt : Nat) (v : Int32) (hbad : ¬ (v = 0 ∨ v = 1)) : Ki V yX10_setter cX10_setter 5 .int ({ frames := 0, cells := 0, slots := 0, locals := 0 }) [.ref x0, .int v] [(x0, .inr (10, [.ref t, .ref d, .ref h, .ref s, .ref o, .ref p, .ref p2, .ref ru, .ref cu, .ref br, .ref bt]))] (fun (r : Int32) (u : Unit) => r = -1) (fun u => [(x0, .inr (10, [.ref t, .ref d, .ref h, .ref s, .ref o, .ref p, .ref p2, .ref ru, .ref cu, .ref br, .ref bt]))]) := by
  refine Ki.of [some (.ref x0), some (.int v), none, none, none] (by decide) (Nat.le_of_ble_eq_true rfl) rfl rfl ?_
  intro Z X E
  have X : gX V Z RX10 cX10_setter 5 ({ frames := 0, cells := 0, slots := 0, locals := 0 }) := X
  refine g_iload_n X dX10_setter_0 rfl ?_
  refine g_if_eq X 11 dX10_setter_1 (by decide) (fun c1_1 => absurd c1_1 (fun z => hbad (Or.inl z))) (fun c1_1 => ?_)
  refine g_iload_n X dX10_setter_4 rfl ?_
  refine g_iconst X (1) dX10_setter_5 (by decide) ?_
  refine g_icmp_eq X 11 dX10_setter_6 (by decide) (fun c6_2 => absurd c6_2 (fun z => hbad (Or.inr z))) (fun c6_2 => ?_)
  refine g_iconst X (-1) dX10_setter_9 (by decide) ?_
  exact g_iret X E dX10_setter_10 () (-1) (by first | rfl | (simp [c1_1, c6_2]; done)) rfl

set_option maxHeartbeats 4000000 in
set_option maxRecDepth 100000 in
theorem m_setter_0 (V : gV) (x0 : Nat) (t : Nat) (d : Nat) (h : Nat) (s : Nat) (o : Nat) (p : Nat) (p2 : Nat) (ru : Nat) (cu : Nat) (br : Nat) (bt : Nat) (sw : Nat) (sg : Nat) (day : Int32) (w : Nat → Int32) (g : Nat → Int32) (ow_ : Nat) (og_ : Nat) (oday : Int32) (ow : Nat → Int32) (og : Nat → Int32) (hk : Nat) (hfw : Nat) (hfg : Nat) (hwb : Nat) (hld : Nat) (hte : Nat) (hpu : Nat) (hnu : Nat) (n : Nat) (m : Nat) (hwa : Int32) (hto : Int32) (k : Nat → Int32) (ruc : Nat) (rum : Nat) (z : Nat) (rc : Nat → Nat) (rm : Nat → Int32) (hn : n ≤ 7) (hz : z ≤ 6) (hr : ∀ i, i < z → rc i < n) : Ki V yX10_setter cX10_setter 5 .int ({ frames := 3, cells := 0, slots := 0, locals := 66 }) [.ref x0, .int 0] [(x0, .inr (10, [.ref t, .ref d, .ref h, .ref s, .ref o, .ref p, .ref p2, .ref ru, .ref cu, .ref br, .ref bt])), (s, .inr (8, [.ref h, .ref sw, .ref sg, .int day])), (sw, .inl (V.2.2.1, 7, .inl w)), (sg, .inl (V.2.2.1, 7, .inl g)), (ru, .inr (6, [.ref ruc, .ref rum, .int (nI z)])), (ruc, .inl (V.2.2.1, 6, .inl (nIf rc))), (rum, .inl (V.2.2.1, 6, .inl rm)), (o, .inr (8, [.ref h, .ref ow_, .ref og_, .int oday])), (ow_, .inl (V.2.2.1, 7, .inl ow)), (og_, .inl (V.2.2.1, 7, .inl og)), (h, .inr (4, [.ref hk, .ref hfw, .ref hfg, .ref hwb, .ref hld, .ref hte, .ref hpu, .int (nI n), .int hwa, .int (nI m), .ref hnu, .int hto])), (hk, .inl (V.2.2.1, 7, .inl k))] (fun (r : Int32) (u : (Nat → Int32)) => r = nI (setF k n w z rc rm).1) (fun u => [(x0, .inr (10, [.ref t, .ref d, .ref h, .ref s, .ref o, .ref p, .ref p2, .ref ru, .ref cu, .ref br, .ref bt])), (s, .inr (8, [.ref h, .ref sw, .ref sg, .int day])), (sw, .inl (V.2.2.1, 7, .inl w)), (sg, .inl (V.2.2.1, 7, .inl g)), (ru, .inr (6, [.ref ruc, .ref rum, .int (nI z)])), (ruc, .inl (V.2.2.1, 6, .inl (nIf rc))), (rum, .inl (V.2.2.1, 6, .inl rm)), (o, .inr (8, [.ref h, .ref ow_, .ref og_, .int day])), (ow_, .inl (V.2.2.1, 7, .inl u)), (og_, .inl (V.2.2.1, 7, .inl g)), (h, .inr (4, [.ref hk, .ref hfw, .ref hfg, .ref hwb, .ref hld, .ref hte, .ref hpu, .int (nI n), .int hwa, .int (nI m), .ref hnu, .int hto])), (hk, .inl (V.2.2.1, 7, .inl k))]) := by
  refine Ki.of [some (.ref x0), some (.int 0), none, none, none] (by decide) (Nat.le_of_ble_eq_true rfl) rfl rfl ?_
  intro Z X E
  have X : gX V Z RX10 cX10_setter 5 ({ frames := 3, cells := 0, slots := 0, locals := 66 }) := X
  refine g_iload_n X dX10_setter_0 rfl ?_
  refine g_if_eq X 11 dX10_setter_1 (by decide) (fun c1_1 => ?_) (fun c1_1 => absurd (by decide) c1_1)
  refine g_iconst X (0) dX10_setter_11 (by decide) ?_
  refine g_istore_n X (L' := [some (.ref x0), some (.int 0), some (.int 0), none, none]) dX10_setter_12 (by decide) rfl rfl ?_
  refine g_bipush X (-4) dX10_setter_13 (by decide) ?_
  refine g_istore_n X (L' := [some (.ref x0), some (.int 0), some (.int 0), some (.int (-4)), none]) dX10_setter_15 (by decide) rfl rfl ?_
  refine g_aload_n X dX10_setter_16 rfl ?_
  refine g_get X uwX10 0 rfl rfl 4 (by decide) kl_X10_35 rfl rfl gwX10 dX10_setter_17 ?_
  refine g_aload_n X dX10_setter_20 rfl ?_
  refine g_get X uwX10 0 rfl rfl 3 (by decide) kl_X10_31 rfl rfl gwX10 dX10_setter_21 ?_
  refine g_callVv X (c_X8_takeFrom V o ow_ og_ oday ow og h s sw sg h day w g) mo_X8_takeFrom kl_X10_166 [7, 8, 9, 1, 2, 3] [0, 4, 5, 6, 0, 0, 0, 1, 2, 3, 0, 0] rfl (by decide +kernel) rfl rfl (fun _ => Nat.le_of_ble_eq_true rfl) 7 8 rfl rfl (As := [.ref s]) (st := []) (cs' := (0, 0)) rfl rfl rfl rfl dX10_setter_24 (fun u_2 hp_3 ws_5 hw_4 => ?_)
  have hw_4x : ws_5 = [(x0, .inr (10, [.ref t, .ref d, .ref h, .ref s, .ref o, .ref p, .ref p2, .ref ru, .ref cu, .ref br, .ref bt])), (s, .inr (8, [.ref h, .ref sw, .ref sg, .int day])), (sw, .inl (V.2.2.1, 7, .inl w)), (sg, .inl (V.2.2.1, 7, .inl g)), (ru, .inr (6, [.ref ruc, .ref rum, .int (nI z)])), (ruc, .inl (V.2.2.1, 6, .inl (nIf rc))), (rum, .inl (V.2.2.1, 6, .inl rm)), (o, .inr (8, [.ref h, .ref ow_, .ref og_, .int day])), (ow_, .inl (V.2.2.1, 7, .inl w)), (og_, .inl (V.2.2.1, 7, .inl g)), (h, .inr (4, [.ref hk, .ref hfw, .ref hfg, .ref hwb, .ref hld, .ref hte, .ref hpu, .int (nI n), .int hwa, .int (nI m), .ref hnu, .int hto])), (hk, .inl (V.2.2.1, 7, .inl k))] := hw_4.symm
  clear hw_4; subst hw_4x
  refine g_bipush X (-100) dX10_setter_27 (by decide) ?_
  refine g_toe (x' := nI 0 - 100) (by decide) ?_
  refine g_istore X (L' := [some (.ref x0), some (.int 0), some (.int 0), some (.int (-4)), some (.int (nI 0 - 100))]) dX10_setter_29 (by decide) rfl rfl ?_
  have loop31_7 : ∀ (d31 i : Nat), i + d31 = 201 → ∀ (mc : Nat) (fi : Int32) (wv : Nat → Int32) (hmc : mc ≤ i) (hwv : ∀ x, seeF k n x wv = seeF k n x w) (h1 : (mc, fi) = it (setS k n w z rc rm) i (0, -4)), G V Z 5 (0, 0) [(x0, .inr (10, [.ref t, .ref d, .ref h, .ref s, .ref o, .ref p, .ref p2, .ref ru, .ref cu, .ref br, .ref bt])), (s, .inr (8, [.ref h, .ref sw, .ref sg, .int day])), (sw, .inl (V.2.2.1, 7, .inl w)), (sg, .inl (V.2.2.1, 7, .inl g)), (ru, .inr (6, [.ref ruc, .ref rum, .int (nI z)])), (ruc, .inl (V.2.2.1, 6, .inl (nIf rc))), (rum, .inl (V.2.2.1, 6, .inl rm)), (o, .inr (8, [.ref h, .ref ow_, .ref og_, .int day])), (ow_, .inl (V.2.2.1, 7, .inl wv)), (og_, .inl (V.2.2.1, 7, .inl g)), (h, .inr (4, [.ref hk, .ref hfw, .ref hfg, .ref hwb, .ref hld, .ref hte, .ref hpu, .int (nI n), .int hwa, .int (nI m), .ref hnu, .int hto])), (hk, .inl (V.2.2.1, 7, .inl k))] 31 [some (.ref x0), some (.int 0), some (.int (nI mc)), some (.int fi), some (.int (nI i - 100))] [] := by
    intro d31
    induction d31 with
    | zero =>
      intro i hi mc fi wv hmc hwv h1
      refine g_iload X dX10_setter_31 rfl ?_
      refine g_bipush X (100) dX10_setter_33 (by decide) ?_
      refine g_icmp_gt X 84 dX10_setter_35 (by decide) (fun c35_8 => ?_) (fun c35_8 => absurd (by rw [show i = 201 by omega]; decide) c35_8)
      refine g_iload_n X dX10_setter_84 rfl ?_
      refine g_if_ne X 92 dX10_setter_85 (by decide) (fun c85_9 => absurd (by decide) c85_9) (fun c85_9 => ?_)
      refine g_iload_n X dX10_setter_88 rfl ?_
      refine g_goto X 93 dX10_setter_89 (by decide) ?_
      exact g_iret X E dX10_setter_93 wv (nI mc) (by have e : i = 201 := (by omega); subst e; rw [setF, ← h1]) rfl
    | succ d31 ih31 =>
      intro i hi mc fi wv hmc hwv h1
      refine g_iload X dX10_setter_31 rfl ?_
      refine g_bipush X (100) dX10_setter_33 (by decide) ?_
      refine g_icmp_gt X 84 dX10_setter_35 (by decide) (fun c35_10 => absurd c35_10 (setm_lt i (by omega))) (fun c35_10 => ?_)
      refine g_aload_n X dX10_setter_38 rfl ?_
      refine g_get X uwX10 0 rfl rfl 4 (by decide) kl_X10_35 rfl rfl gwX10 dX10_setter_39 ?_
      refine g_iload X dX10_setter_42 rfl ?_
      refine g_callVv X (c_X8_makeAllSeeingWrong V o ow_ og_ day wv h hk hfw hfg hwb hld hte hpu hnu n m hwa hto k (nI i - 100) (by omega)) mo_X8_makeAllSeeingWrong kl_X10_220 [7, 8, 10, 11] [0, 0, 0, 0, 0, 0, 0, 1, 2, 0, 3, 4] rfl (by decide +kernel) rfl rfl (fun _ => Nat.le_of_ble_eq_true rfl) 7 8 rfl rfl (As := [.int (nI i - 100)]) (st := []) (cs' := (0, 0)) rfl rfl rfl rfl dX10_setter_44 (fun nw_11 hp_12 ws_14 hw_13 => ?_)
      obtain rfl : nw_11 = seeF k n (nI i - 100) wv := hp_12
      have hw_13x : ws_14 = [(x0, .inr (10, [.ref t, .ref d, .ref h, .ref s, .ref o, .ref p, .ref p2, .ref ru, .ref cu, .ref br, .ref bt])), (s, .inr (8, [.ref h, .ref sw, .ref sg, .int day])), (sw, .inl (V.2.2.1, 7, .inl w)), (sg, .inl (V.2.2.1, 7, .inl g)), (ru, .inr (6, [.ref ruc, .ref rum, .int (nI z)])), (ruc, .inl (V.2.2.1, 6, .inl (nIf rc))), (rum, .inl (V.2.2.1, 6, .inl rm)), (o, .inr (8, [.ref h, .ref ow_, .ref og_, .int day])), (ow_, .inl (V.2.2.1, 7, .inl (seeF k n (nI i - 100) wv))), (og_, .inl (V.2.2.1, 7, .inl g)), (h, .inr (4, [.ref hk, .ref hfw, .ref hfg, .ref hwb, .ref hld, .ref hte, .ref hpu, .int (nI n), .int hwa, .int (nI m), .ref hnu, .int hto])), (hk, .inl (V.2.2.1, 7, .inl k))] := hw_13.symm
      clear hw_13; subst hw_13x
      refine g_aload_n X dX10_setter_47 rfl ?_
      refine g_get X uwX10 0 rfl rfl 7 (by decide) kl_X10_53 rfl rfl gwX10 dX10_setter_48 ?_
      refine g_aload_n X dX10_setter_51 rfl ?_
      refine g_get X uwX10 0 rfl rfl 4 (by decide) kl_X10_35 rfl rfl gwX10 dX10_setter_52 ?_
      refine g_callVi X (c_X6_fit V ru ruc rum z rc rm o ow_ og_ day (seeF k n (nI i - 100) wv) h (by omega) (fun i hi => by have := hr i hi; omega)) mo_X6_fit kl_X10_223 [4, 5, 6, 7, 8] [0, 0, 0, 0, 1, 2, 3, 4, 5, 0, 0, 0] rfl (by decide +kernel) rfl rfl (fun _ => Nat.le_of_ble_eq_true rfl) 4 6 rfl rfl (As := [.ref o]) (st := []) (cs' := (0, 0)) rfl rfl rfl rfl dX10_setter_55 (fun r_20 u_16 hp_17 ws_19 hw_18 => ?_)
      obtain rfl : r_20 = fitF z rc rm (seeF k n (nI i - 100) wv) := hp_17
      have hw_18x : ws_19 = [(x0, .inr (10, [.ref t, .ref d, .ref h, .ref s, .ref o, .ref p, .ref p2, .ref ru, .ref cu, .ref br, .ref bt])), (s, .inr (8, [.ref h, .ref sw, .ref sg, .int day])), (sw, .inl (V.2.2.1, 7, .inl w)), (sg, .inl (V.2.2.1, 7, .inl g)), (ru, .inr (6, [.ref ruc, .ref rum, .int (nI z)])), (ruc, .inl (V.2.2.1, 6, .inl (nIf rc))), (rum, .inl (V.2.2.1, 6, .inl rm)), (o, .inr (8, [.ref h, .ref ow_, .ref og_, .int day])), (ow_, .inl (V.2.2.1, 7, .inl (seeF k n (nI i - 100) wv))), (og_, .inl (V.2.2.1, 7, .inl g)), (h, .inr (4, [.ref hk, .ref hfw, .ref hfg, .ref hwb, .ref hld, .ref hte, .ref hpu, .int (nI n), .int hwa, .int (nI m), .ref hnu, .int hto])), (hk, .inl (V.2.2.1, 7, .inl k))] := hw_18.symm
      clear hw_18; subst hw_18x
      refine g_if_eq X 78 dX10_setter_58 (by decide) (fun c58_21 => ?_) (fun c58_21 => ?_)
      · refine g_iinc X (v := nI (i + 1) - 100) (L' := [some (.ref x0), some (.int 0), some (.int (nI mc)), some (.int fi), some (.int (nI (i + 1) - 100))]) dX10_setter_78 rfl (setm_s i) (by decide) rfl rfl ?_
        refine g_goto X 31 dX10_setter_81 (by decide) ?_
        exact ih31 (i + 1) (by omega) mc fi (seeF k n (nI i - 100) wv) (by omega) (fun x => by rw [seeF_see]; exact hwv x) (by rw [it_s, ← h1, setS, ← hwv]; simp [c58_21])
      · refine g_iload_n X dX10_setter_61 rfl ?_
        refine g_if_ne X 73 dX10_setter_62 (by decide) (fun c62_22 => ?_) (fun c62_22 => ?_)
        · have c62_22n := ine' (a := mc) (b := 0) c62_22 (by omega) (by omega)
          refine g_iload_n X dX10_setter_73 rfl ?_
          refine g_istore_n X (L' := [some (.ref x0), some (.int 0), some (.int (nI mc)), some (.int fi), some (.int (nI i - 100))]) dX10_setter_74 (by decide) rfl rfl ?_
          refine g_iinc X (v := nI (mc + 1)) (L' := [some (.ref x0), some (.int 0), some (.int (nI (mc + 1))), some (.int fi), some (.int (nI i - 100))]) dX10_setter_75 rfl (nI_addk (by decide)) (by decide) rfl rfl ?_
          refine g_iinc X (v := nI (i + 1) - 100) (L' := [some (.ref x0), some (.int 0), some (.int (nI (mc + 1))), some (.int fi), some (.int (nI (i + 1) - 100))]) dX10_setter_78 rfl (setm_s i) (by decide) rfl rfl ?_
          refine g_goto X 31 dX10_setter_81 (by decide) ?_
          exact ih31 (i + 1) (by omega) (mc + 1) fi (seeF k n (nI i - 100) wv) (by omega) (fun x => by rw [seeF_see]; exact hwv x) (by rw [it_s, ← h1, setS, ← hwv]; simp [c58_21, c62_22, c62_22n])
        · have c62_22n := ieq' (a := mc) (b := 0) c62_22 (by omega) (by omega)
          refine g_iload X dX10_setter_65 rfl ?_
          refine g_bipush X (100) dX10_setter_67 (by decide) ?_
          refine g_iadd X dX10_setter_69 ?_
          refine g_goto X 74 dX10_setter_70 (by decide) ?_
          refine g_istore_n X (L' := [some (.ref x0), some (.int 0), some (.int (nI mc)), some (.int ((nI i - 100) + 100)), some (.int (nI i - 100))]) dX10_setter_74 (by decide) rfl rfl ?_
          refine g_iinc X (v := nI (mc + 1)) (L' := [some (.ref x0), some (.int 0), some (.int (nI (mc + 1))), some (.int ((nI i - 100) + 100)), some (.int (nI i - 100))]) dX10_setter_75 rfl (nI_addk (by decide)) (by decide) rfl rfl ?_
          refine g_iinc X (v := nI (i + 1) - 100) (L' := [some (.ref x0), some (.int 0), some (.int (nI (mc + 1))), some (.int ((nI i - 100) + 100)), some (.int (nI (i + 1) - 100))]) dX10_setter_78 rfl (setm_s i) (by decide) rfl rfl ?_
          refine g_goto X 31 dX10_setter_81 (by decide) ?_
          exact ih31 (i + 1) (by omega) (mc + 1) ((nI i - 100) + 100) (seeF k n (nI i - 100) wv) (by omega) (fun x => by rw [seeF_see]; exact hwv x) (by rw [it_s, ← h1, setS, ← hwv]; simp [c58_21, c62_22, c62_22n])
  exact loop31_7 201 0 (by omega) 0 (-4) w (Nat.zero_le _) (fun _ => rfl) rfl

set_option maxHeartbeats 4000000 in
set_option maxRecDepth 100000 in
theorem m_setter_1 (V : gV) (x0 : Nat) (t : Nat) (d : Nat) (h : Nat) (s : Nat) (o : Nat) (p : Nat) (p2 : Nat) (ru : Nat) (cu : Nat) (br : Nat) (bt : Nat) (sw : Nat) (sg : Nat) (day : Int32) (w : Nat → Int32) (g : Nat → Int32) (ow_ : Nat) (og_ : Nat) (oday : Int32) (ow : Nat → Int32) (og : Nat → Int32) (hk : Nat) (hfw : Nat) (hfg : Nat) (hwb : Nat) (hld : Nat) (hte : Nat) (hpu : Nat) (hnu : Nat) (n : Nat) (m : Nat) (hwa : Int32) (hto : Int32) (k : Nat → Int32) (ruc : Nat) (rum : Nat) (z : Nat) (rc : Nat → Nat) (rm : Nat → Int32) (hn : n ≤ 7) (hz : z ≤ 6) (hr : ∀ i, i < z → rc i < n) : Ki V yX10_setter cX10_setter 5 .int ({ frames := 3, cells := 0, slots := 0, locals := 66 }) [.ref x0, .int 1] [(x0, .inr (10, [.ref t, .ref d, .ref h, .ref s, .ref o, .ref p, .ref p2, .ref ru, .ref cu, .ref br, .ref bt])), (s, .inr (8, [.ref h, .ref sw, .ref sg, .int day])), (sw, .inl (V.2.2.1, 7, .inl w)), (sg, .inl (V.2.2.1, 7, .inl g)), (ru, .inr (6, [.ref ruc, .ref rum, .int (nI z)])), (ruc, .inl (V.2.2.1, 6, .inl (nIf rc))), (rum, .inl (V.2.2.1, 6, .inl rm)), (o, .inr (8, [.ref h, .ref ow_, .ref og_, .int oday])), (ow_, .inl (V.2.2.1, 7, .inl ow)), (og_, .inl (V.2.2.1, 7, .inl og)), (h, .inr (4, [.ref hk, .ref hfw, .ref hfg, .ref hwb, .ref hld, .ref hte, .ref hpu, .int (nI n), .int hwa, .int (nI m), .ref hnu, .int hto])), (hk, .inl (V.2.2.1, 7, .inl k))] (fun (r : Int32) (u : (Nat → Int32)) => r = (setF k n w z rc rm).2) (fun u => [(x0, .inr (10, [.ref t, .ref d, .ref h, .ref s, .ref o, .ref p, .ref p2, .ref ru, .ref cu, .ref br, .ref bt])), (s, .inr (8, [.ref h, .ref sw, .ref sg, .int day])), (sw, .inl (V.2.2.1, 7, .inl w)), (sg, .inl (V.2.2.1, 7, .inl g)), (ru, .inr (6, [.ref ruc, .ref rum, .int (nI z)])), (ruc, .inl (V.2.2.1, 6, .inl (nIf rc))), (rum, .inl (V.2.2.1, 6, .inl rm)), (o, .inr (8, [.ref h, .ref ow_, .ref og_, .int day])), (ow_, .inl (V.2.2.1, 7, .inl u)), (og_, .inl (V.2.2.1, 7, .inl g)), (h, .inr (4, [.ref hk, .ref hfw, .ref hfg, .ref hwb, .ref hld, .ref hte, .ref hpu, .int (nI n), .int hwa, .int (nI m), .ref hnu, .int hto])), (hk, .inl (V.2.2.1, 7, .inl k))]) := by
  refine Ki.of [some (.ref x0), some (.int 1), none, none, none] (by decide) (Nat.le_of_ble_eq_true rfl) rfl rfl ?_
  intro Z X E
  have X : gX V Z RX10 cX10_setter 5 ({ frames := 3, cells := 0, slots := 0, locals := 66 }) := X
  refine g_iload_n X dX10_setter_0 rfl ?_
  refine g_if_eq X 11 dX10_setter_1 (by decide) (fun c1_1 => absurd c1_1 (by decide)) (fun c1_1 => ?_)
  refine g_iload_n X dX10_setter_4 rfl ?_
  refine g_iconst X (1) dX10_setter_5 (by decide) ?_
  refine g_icmp_eq X 11 dX10_setter_6 (by decide) (fun c6_2 => ?_) (fun c6_2 => absurd (by decide) c6_2)
  refine g_iconst X (0) dX10_setter_11 (by decide) ?_
  refine g_istore_n X (L' := [some (.ref x0), some (.int 1), some (.int 0), none, none]) dX10_setter_12 (by decide) rfl rfl ?_
  refine g_bipush X (-4) dX10_setter_13 (by decide) ?_
  refine g_istore_n X (L' := [some (.ref x0), some (.int 1), some (.int 0), some (.int (-4)), none]) dX10_setter_15 (by decide) rfl rfl ?_
  refine g_aload_n X dX10_setter_16 rfl ?_
  refine g_get X uwX10 0 rfl rfl 4 (by decide) kl_X10_35 rfl rfl gwX10 dX10_setter_17 ?_
  refine g_aload_n X dX10_setter_20 rfl ?_
  refine g_get X uwX10 0 rfl rfl 3 (by decide) kl_X10_31 rfl rfl gwX10 dX10_setter_21 ?_
  refine g_callVv X (c_X8_takeFrom V o ow_ og_ oday ow og h s sw sg h day w g) mo_X8_takeFrom kl_X10_166 [7, 8, 9, 1, 2, 3] [0, 4, 5, 6, 0, 0, 0, 1, 2, 3, 0, 0] rfl (by decide +kernel) rfl rfl (fun _ => Nat.le_of_ble_eq_true rfl) 7 8 rfl rfl (As := [.ref s]) (st := []) (cs' := (0, 0)) rfl rfl rfl rfl dX10_setter_24 (fun u_3 hp_4 ws_6 hw_5 => ?_)
  have hw_5x : ws_6 = [(x0, .inr (10, [.ref t, .ref d, .ref h, .ref s, .ref o, .ref p, .ref p2, .ref ru, .ref cu, .ref br, .ref bt])), (s, .inr (8, [.ref h, .ref sw, .ref sg, .int day])), (sw, .inl (V.2.2.1, 7, .inl w)), (sg, .inl (V.2.2.1, 7, .inl g)), (ru, .inr (6, [.ref ruc, .ref rum, .int (nI z)])), (ruc, .inl (V.2.2.1, 6, .inl (nIf rc))), (rum, .inl (V.2.2.1, 6, .inl rm)), (o, .inr (8, [.ref h, .ref ow_, .ref og_, .int day])), (ow_, .inl (V.2.2.1, 7, .inl w)), (og_, .inl (V.2.2.1, 7, .inl g)), (h, .inr (4, [.ref hk, .ref hfw, .ref hfg, .ref hwb, .ref hld, .ref hte, .ref hpu, .int (nI n), .int hwa, .int (nI m), .ref hnu, .int hto])), (hk, .inl (V.2.2.1, 7, .inl k))] := hw_5.symm
  clear hw_5; subst hw_5x
  refine g_bipush X (-100) dX10_setter_27 (by decide) ?_
  refine g_toe (x' := nI 0 - 100) (by decide) ?_
  refine g_istore X (L' := [some (.ref x0), some (.int 1), some (.int 0), some (.int (-4)), some (.int (nI 0 - 100))]) dX10_setter_29 (by decide) rfl rfl ?_
  have loop31_8 : ∀ (d31 i : Nat), i + d31 = 201 → ∀ (mc : Nat) (fi : Int32) (wv : Nat → Int32) (hmc : mc ≤ i) (hwv : ∀ x, seeF k n x wv = seeF k n x w) (h1 : (mc, fi) = it (setS k n w z rc rm) i (0, -4)), G V Z 5 (0, 0) [(x0, .inr (10, [.ref t, .ref d, .ref h, .ref s, .ref o, .ref p, .ref p2, .ref ru, .ref cu, .ref br, .ref bt])), (s, .inr (8, [.ref h, .ref sw, .ref sg, .int day])), (sw, .inl (V.2.2.1, 7, .inl w)), (sg, .inl (V.2.2.1, 7, .inl g)), (ru, .inr (6, [.ref ruc, .ref rum, .int (nI z)])), (ruc, .inl (V.2.2.1, 6, .inl (nIf rc))), (rum, .inl (V.2.2.1, 6, .inl rm)), (o, .inr (8, [.ref h, .ref ow_, .ref og_, .int day])), (ow_, .inl (V.2.2.1, 7, .inl wv)), (og_, .inl (V.2.2.1, 7, .inl g)), (h, .inr (4, [.ref hk, .ref hfw, .ref hfg, .ref hwb, .ref hld, .ref hte, .ref hpu, .int (nI n), .int hwa, .int (nI m), .ref hnu, .int hto])), (hk, .inl (V.2.2.1, 7, .inl k))] 31 [some (.ref x0), some (.int 1), some (.int (nI mc)), some (.int fi), some (.int (nI i - 100))] [] := by
    intro d31
    induction d31 with
    | zero =>
      intro i hi mc fi wv hmc hwv h1
      refine g_iload X dX10_setter_31 rfl ?_
      refine g_bipush X (100) dX10_setter_33 (by decide) ?_
      refine g_icmp_gt X 84 dX10_setter_35 (by decide) (fun c35_9 => ?_) (fun c35_9 => absurd (by rw [show i = 201 by omega]; decide) c35_9)
      refine g_iload_n X dX10_setter_84 rfl ?_
      refine g_if_ne X 92 dX10_setter_85 (by decide) (fun c85_10 => ?_) (fun c85_10 => absurd c85_10 (by decide))
      refine g_iload_n X dX10_setter_92 rfl ?_
      exact g_iret X E dX10_setter_93 wv fi (by have e : i = 201 := (by omega); subst e; rw [setF, ← h1]) rfl
    | succ d31 ih31 =>
      intro i hi mc fi wv hmc hwv h1
      refine g_iload X dX10_setter_31 rfl ?_
      refine g_bipush X (100) dX10_setter_33 (by decide) ?_
      refine g_icmp_gt X 84 dX10_setter_35 (by decide) (fun c35_11 => absurd c35_11 (setm_lt i (by omega))) (fun c35_11 => ?_)
      refine g_aload_n X dX10_setter_38 rfl ?_
      refine g_get X uwX10 0 rfl rfl 4 (by decide) kl_X10_35 rfl rfl gwX10 dX10_setter_39 ?_
      refine g_iload X dX10_setter_42 rfl ?_
      refine g_callVv X (c_X8_makeAllSeeingWrong V o ow_ og_ day wv h hk hfw hfg hwb hld hte hpu hnu n m hwa hto k (nI i - 100) (by omega)) mo_X8_makeAllSeeingWrong kl_X10_220 [7, 8, 10, 11] [0, 0, 0, 0, 0, 0, 0, 1, 2, 0, 3, 4] rfl (by decide +kernel) rfl rfl (fun _ => Nat.le_of_ble_eq_true rfl) 7 8 rfl rfl (As := [.int (nI i - 100)]) (st := []) (cs' := (0, 0)) rfl rfl rfl rfl dX10_setter_44 (fun nw_12 hp_13 ws_15 hw_14 => ?_)
      obtain rfl : nw_12 = seeF k n (nI i - 100) wv := hp_13
      have hw_14x : ws_15 = [(x0, .inr (10, [.ref t, .ref d, .ref h, .ref s, .ref o, .ref p, .ref p2, .ref ru, .ref cu, .ref br, .ref bt])), (s, .inr (8, [.ref h, .ref sw, .ref sg, .int day])), (sw, .inl (V.2.2.1, 7, .inl w)), (sg, .inl (V.2.2.1, 7, .inl g)), (ru, .inr (6, [.ref ruc, .ref rum, .int (nI z)])), (ruc, .inl (V.2.2.1, 6, .inl (nIf rc))), (rum, .inl (V.2.2.1, 6, .inl rm)), (o, .inr (8, [.ref h, .ref ow_, .ref og_, .int day])), (ow_, .inl (V.2.2.1, 7, .inl (seeF k n (nI i - 100) wv))), (og_, .inl (V.2.2.1, 7, .inl g)), (h, .inr (4, [.ref hk, .ref hfw, .ref hfg, .ref hwb, .ref hld, .ref hte, .ref hpu, .int (nI n), .int hwa, .int (nI m), .ref hnu, .int hto])), (hk, .inl (V.2.2.1, 7, .inl k))] := hw_14.symm
      clear hw_14; subst hw_14x
      refine g_aload_n X dX10_setter_47 rfl ?_
      refine g_get X uwX10 0 rfl rfl 7 (by decide) kl_X10_53 rfl rfl gwX10 dX10_setter_48 ?_
      refine g_aload_n X dX10_setter_51 rfl ?_
      refine g_get X uwX10 0 rfl rfl 4 (by decide) kl_X10_35 rfl rfl gwX10 dX10_setter_52 ?_
      refine g_callVi X (c_X6_fit V ru ruc rum z rc rm o ow_ og_ day (seeF k n (nI i - 100) wv) h (by omega) (fun i hi => by have := hr i hi; omega)) mo_X6_fit kl_X10_223 [4, 5, 6, 7, 8] [0, 0, 0, 0, 1, 2, 3, 4, 5, 0, 0, 0] rfl (by decide +kernel) rfl rfl (fun _ => Nat.le_of_ble_eq_true rfl) 4 6 rfl rfl (As := [.ref o]) (st := []) (cs' := (0, 0)) rfl rfl rfl rfl dX10_setter_55 (fun r_21 u_17 hp_18 ws_20 hw_19 => ?_)
      obtain rfl : r_21 = fitF z rc rm (seeF k n (nI i - 100) wv) := hp_18
      have hw_19x : ws_20 = [(x0, .inr (10, [.ref t, .ref d, .ref h, .ref s, .ref o, .ref p, .ref p2, .ref ru, .ref cu, .ref br, .ref bt])), (s, .inr (8, [.ref h, .ref sw, .ref sg, .int day])), (sw, .inl (V.2.2.1, 7, .inl w)), (sg, .inl (V.2.2.1, 7, .inl g)), (ru, .inr (6, [.ref ruc, .ref rum, .int (nI z)])), (ruc, .inl (V.2.2.1, 6, .inl (nIf rc))), (rum, .inl (V.2.2.1, 6, .inl rm)), (o, .inr (8, [.ref h, .ref ow_, .ref og_, .int day])), (ow_, .inl (V.2.2.1, 7, .inl (seeF k n (nI i - 100) wv))), (og_, .inl (V.2.2.1, 7, .inl g)), (h, .inr (4, [.ref hk, .ref hfw, .ref hfg, .ref hwb, .ref hld, .ref hte, .ref hpu, .int (nI n), .int hwa, .int (nI m), .ref hnu, .int hto])), (hk, .inl (V.2.2.1, 7, .inl k))] := hw_19.symm
      clear hw_19; subst hw_19x
      refine g_if_eq X 78 dX10_setter_58 (by decide) (fun c58_22 => ?_) (fun c58_22 => ?_)
      · refine g_iinc X (v := nI (i + 1) - 100) (L' := [some (.ref x0), some (.int 1), some (.int (nI mc)), some (.int fi), some (.int (nI (i + 1) - 100))]) dX10_setter_78 rfl (setm_s i) (by decide) rfl rfl ?_
        refine g_goto X 31 dX10_setter_81 (by decide) ?_
        exact ih31 (i + 1) (by omega) mc fi (seeF k n (nI i - 100) wv) (by omega) (fun x => by rw [seeF_see]; exact hwv x) (by rw [it_s, ← h1, setS, ← hwv]; simp [c58_22])
      · refine g_iload_n X dX10_setter_61 rfl ?_
        refine g_if_ne X 73 dX10_setter_62 (by decide) (fun c62_23 => ?_) (fun c62_23 => ?_)
        · have c62_23n := ine' (a := mc) (b := 0) c62_23 (by omega) (by omega)
          refine g_iload_n X dX10_setter_73 rfl ?_
          refine g_istore_n X (L' := [some (.ref x0), some (.int 1), some (.int (nI mc)), some (.int fi), some (.int (nI i - 100))]) dX10_setter_74 (by decide) rfl rfl ?_
          refine g_iinc X (v := nI (mc + 1)) (L' := [some (.ref x0), some (.int 1), some (.int (nI (mc + 1))), some (.int fi), some (.int (nI i - 100))]) dX10_setter_75 rfl (nI_addk (by decide)) (by decide) rfl rfl ?_
          refine g_iinc X (v := nI (i + 1) - 100) (L' := [some (.ref x0), some (.int 1), some (.int (nI (mc + 1))), some (.int fi), some (.int (nI (i + 1) - 100))]) dX10_setter_78 rfl (setm_s i) (by decide) rfl rfl ?_
          refine g_goto X 31 dX10_setter_81 (by decide) ?_
          exact ih31 (i + 1) (by omega) (mc + 1) fi (seeF k n (nI i - 100) wv) (by omega) (fun x => by rw [seeF_see]; exact hwv x) (by rw [it_s, ← h1, setS, ← hwv]; simp [c58_22, c62_23, c62_23n])
        · have c62_23n := ieq' (a := mc) (b := 0) c62_23 (by omega) (by omega)
          refine g_iload X dX10_setter_65 rfl ?_
          refine g_bipush X (100) dX10_setter_67 (by decide) ?_
          refine g_iadd X dX10_setter_69 ?_
          refine g_goto X 74 dX10_setter_70 (by decide) ?_
          refine g_istore_n X (L' := [some (.ref x0), some (.int 1), some (.int (nI mc)), some (.int ((nI i - 100) + 100)), some (.int (nI i - 100))]) dX10_setter_74 (by decide) rfl rfl ?_
          refine g_iinc X (v := nI (mc + 1)) (L' := [some (.ref x0), some (.int 1), some (.int (nI (mc + 1))), some (.int ((nI i - 100) + 100)), some (.int (nI i - 100))]) dX10_setter_75 rfl (nI_addk (by decide)) (by decide) rfl rfl ?_
          refine g_iinc X (v := nI (i + 1) - 100) (L' := [some (.ref x0), some (.int 1), some (.int (nI (mc + 1))), some (.int ((nI i - 100) + 100)), some (.int (nI (i + 1) - 100))]) dX10_setter_78 rfl (setm_s i) (by decide) rfl rfl ?_
          refine g_goto X 31 dX10_setter_81 (by decide) ?_
          exact ih31 (i + 1) (by omega) (mc + 1) ((nI i - 100) + 100) (seeF k n (nI i - 100) wv) (by omega) (fun x => by rw [seeF_see]; exact hwv x) (by rw [it_s, ← h1, setS, ← hwv]; simp [c58_22, c62_23, c62_23n])
  exact loop31_8 201 0 (by omega) 0 (-4) w (Nat.zero_le _) (fun _ => rfl) rfl

set_option maxHeartbeats 4000000 in
set_option maxRecDepth 100000 in
theorem m_child_bad (V : gV) (x0 : Nat) (t : Nat) (d : Nat) (h : Nat) (s : Nat) (o : Nat) (p : Nat) (p2 : Nat) (ru : Nat) (cu : Nat) (br : Nat) (bt : Nat) (hk : Nat) (hfw : Nat) (hfg : Nat) (hwb : Nat) (hld : Nat) (hte : Nat) (hpu : Nat) (hnu : Nat) (n : Nat) (m : Nat) (hwa : Int32) (hto : Int32) (c : Int32) (hn : n ≤ 7) (hbad : ¬ okC n c) : Ki V yX10_child cX10_child 6 .int ({ frames := 1, cells := 0, slots := 0, locals := 21 }) [.ref x0, .int c] [(x0, .inr (10, [.ref t, .ref d, .ref h, .ref s, .ref o, .ref p, .ref p2, .ref ru, .ref cu, .ref br, .ref bt])), (h, .inr (4, [.ref hk, .ref hfw, .ref hfg, .ref hwb, .ref hld, .ref hte, .ref hpu, .int (nI n), .int hwa, .int (nI m), .ref hnu, .int hto]))] (fun (r : Int32) (u : Unit) => r = -1) (fun u => [(x0, .inr (10, [.ref t, .ref d, .ref h, .ref s, .ref o, .ref p, .ref p2, .ref ru, .ref cu, .ref br, .ref bt])), (h, .inr (4, [.ref hk, .ref hfw, .ref hfg, .ref hwb, .ref hld, .ref hte, .ref hpu, .int (nI n), .int hwa, .int (nI m), .ref hnu, .int hto]))]) := by
  refine Ki.of [some (.ref x0), some (.int c), none, none, none, none] (by decide) (Nat.le_of_ble_eq_true rfl) rfl rfl ?_
  intro Z X E
  have X : gX V Z RX10 cX10_child 6 ({ frames := 1, cells := 0, slots := 0, locals := 21 }) := X
  refine g_aload_n X dX10_child_0 rfl ?_
  refine g_get X uwX10 0 rfl rfl 2 (by decide) kl_X10_23 rfl rfl gwX10 dX10_child_1 ?_
  refine g_iload_n X dX10_child_4 rfl ?_
  refine g_callVi X (c_X4_hasClockG V h hk hfw hfg hwb hld hte hpu hnu n m hwa hto c (by omega)) mo_X4_hasClock kl_X10_113 [1] [0, 1] rfl (by decide +kernel) rfl rfl (fun _ => Nat.le_of_ble_eq_true rfl) 1 4 rfl rfl (As := [.int c]) (st := []) (cs' := (0, 0)) rfl rfl rfl rfl dX10_child_5 (fun r_5 u_1 hp_2 ws_4 hw_3 => ?_)
  obtain rfl : r_5 = (if okC n c then 1 else 0) := hp_2
  have hw_3x : ws_4 = [(x0, .inr (10, [.ref t, .ref d, .ref h, .ref s, .ref o, .ref p, .ref p2, .ref ru, .ref cu, .ref br, .ref bt])), (h, .inr (4, [.ref hk, .ref hfw, .ref hfg, .ref hwb, .ref hld, .ref hte, .ref hpu, .int (nI n), .int hwa, .int (nI m), .ref hnu, .int hto]))] := hw_3.symm
  clear hw_3; subst hw_3x
  refine g_if_ne X 13 dX10_child_8 (by decide) (fun c8_6 => absurd (by rw [if_neg hbad]) c8_6) (fun c8_6 => ?_)
  refine g_iconst X (-1) dX10_child_11 (by decide) ?_
  exact g_iret X E dX10_child_12 () (-1) (by first | rfl | (simp [c8_6]; done)) rfl

set_option maxHeartbeats 4000000 in
set_option maxRecDepth 100000 in
theorem m_child_ok (V : gV) (x0 : Nat) (t : Nat) (d : Nat) (h : Nat) (s : Nat) (o : Nat) (p : Nat) (p2 : Nat) (ru : Nat) (cu : Nat) (br : Nat) (bt : Nat) (sw : Nat) (sg : Nat) (day : Int32) (w : Nat → Int32) (hk : Nat) (hfw : Nat) (hfg : Nat) (hwb : Nat) (hld : Nat) (hte : Nat) (hpu : Nat) (hnu : Nat) (n : Nat) (m : Nat) (hwa : Int32) (hto : Int32) (c : Nat) (hn : n ≤ 7) (hc : c < n) : Ki V yX10_child cX10_child 6 .int ({ frames := 2, cells := 0, slots := 0, locals := 43 }) [.ref x0, .int (nI c)] [(x0, .inr (10, [.ref t, .ref d, .ref h, .ref s, .ref o, .ref p, .ref p2, .ref ru, .ref cu, .ref br, .ref bt])), (s, .inr (8, [.ref h, .ref sw, .ref sg, .int day])), (sw, .inl (V.2.2.1, 7, .inl w)), (h, .inr (4, [.ref hk, .ref hfw, .ref hfg, .ref hwb, .ref hld, .ref hte, .ref hpu, .int (nI n), .int hwa, .int (nI m), .ref hnu, .int hto]))] (fun (r : Int32) (u : Unit) => r = chiF n w c) (fun u => [(x0, .inr (10, [.ref t, .ref d, .ref h, .ref s, .ref o, .ref p, .ref p2, .ref ru, .ref cu, .ref br, .ref bt])), (s, .inr (8, [.ref h, .ref sw, .ref sg, .int day])), (sw, .inl (V.2.2.1, 7, .inl w)), (h, .inr (4, [.ref hk, .ref hfw, .ref hfg, .ref hwb, .ref hld, .ref hte, .ref hpu, .int (nI n), .int hwa, .int (nI m), .ref hnu, .int hto]))]) := by
  refine Ki.of [some (.ref x0), some (.int (nI c)), none, none, none, none] (by decide) (Nat.le_of_ble_eq_true rfl) rfl rfl ?_
  intro Z X E
  have X : gX V Z RX10 cX10_child 6 ({ frames := 2, cells := 0, slots := 0, locals := 43 }) := X
  refine g_aload_n X dX10_child_0 rfl ?_
  refine g_get X uwX10 0 rfl rfl 2 (by decide) kl_X10_23 rfl rfl gwX10 dX10_child_1 ?_
  refine g_iload_n X dX10_child_4 rfl ?_
  refine g_callVi X (c_X4_hasClockG V h hk hfw hfg hwb hld hte hpu hnu n m hwa hto (nI c) (by omega)) mo_X4_hasClock kl_X10_113 [3] [0, 0, 0, 1] rfl (by decide +kernel) rfl rfl (fun _ => Nat.le_of_ble_eq_true rfl) 3 4 rfl rfl (As := [.int (nI c)]) (st := []) (cs' := (0, 0)) rfl rfl rfl rfl dX10_child_5 (fun r_5 u_1 hp_2 ws_4 hw_3 => ?_)
  obtain rfl : r_5 = (if okC n (nI c) then 1 else 0) := hp_2
  have hw_3x : ws_4 = [(x0, .inr (10, [.ref t, .ref d, .ref h, .ref s, .ref o, .ref p, .ref p2, .ref ru, .ref cu, .ref br, .ref bt])), (s, .inr (8, [.ref h, .ref sw, .ref sg, .int day])), (sw, .inl (V.2.2.1, 7, .inl w)), (h, .inr (4, [.ref hk, .ref hfw, .ref hfg, .ref hwb, .ref hld, .ref hte, .ref hpu, .int (nI n), .int hwa, .int (nI m), .ref hnu, .int hto]))] := hw_3.symm
  clear hw_3; subst hw_3x
  refine g_if_ne X 13 dX10_child_8 (by decide) (fun c8_6 => ?_) (fun c8_6 => absurd c8_6 (by rw [if_pos (okC_nI hc (by omega))]; decide))
  refine g_bipush X (-4) dX10_child_13 (by decide) ?_
  refine g_istore_n X (L' := [some (.ref x0), some (.int (nI c)), some (.int (-4)), none, none, none]) dX10_child_15 (by decide) rfl rfl ?_
  refine g_iconst X (0) dX10_child_16 (by decide) ?_
  refine g_istore_n X (L' := [some (.ref x0), some (.int (nI c)), some (.int (-4)), some (.int 0), none, none]) dX10_child_17 (by decide) rfl rfl ?_
  refine g_iconst X (0) dX10_child_18 (by decide) ?_
  refine g_istore X (L' := [some (.ref x0), some (.int (nI c)), some (.int (-4)), some (.int 0), some (.int 0), none]) dX10_child_19 (by decide) rfl rfl ?_
  have loop21_7 : ∀ (d21 i : Nat), i + d21 = n → ∀ (be : Int32) (fe : Int32) (h1 : (be, fe) = it (chiS w c) i (-4, 0)), G V Z 6 (0, 0) [(x0, .inr (10, [.ref t, .ref d, .ref h, .ref s, .ref o, .ref p, .ref p2, .ref ru, .ref cu, .ref br, .ref bt])), (s, .inr (8, [.ref h, .ref sw, .ref sg, .int day])), (sw, .inl (V.2.2.1, 7, .inl w)), (h, .inr (4, [.ref hk, .ref hfw, .ref hfg, .ref hwb, .ref hld, .ref hte, .ref hpu, .int (nI n), .int hwa, .int (nI m), .ref hnu, .int hto]))] 21 [some (.ref x0), some (.int (nI c)), some (.int be), some (.int fe), some (.int (nI i)), none] [] := by
    intro d21
    induction d21 with
    | zero =>
      intro i hi be fe h1
      refine g_iload X dX10_child_21 rfl ?_
      refine g_aload_n X dX10_child_23 rfl ?_
      refine g_get X uwX10 0 rfl rfl 2 (by decide) kl_X10_23 rfl rfl gwX10 dX10_child_24 ?_
      refine g_getN X uwX4 3 rfl rfl 7 (by decide) kl_X10_104 rfl rfl gwX4 dX10_child_27 ?_
      refine g_icmp_ge X 75 dX10_child_30 (by decide) (fun c30_8 => ?_) (fun c30_8 => absurd (tge (a := i) (b := n) (by omega) (by omega) (by omega)) c30_8)
      refine g_iload_n X dX10_child_75 rfl ?_
      exact g_iret X E dX10_child_76 () be (by have e : i = n := (by omega); subst e; rw [chiF, ← h1]) rfl
    | succ d21 ih21 =>
      intro i hi be fe h1
      refine g_iload X dX10_child_21 rfl ?_
      refine g_aload_n X dX10_child_23 rfl ?_
      refine g_get X uwX10 0 rfl rfl 2 (by decide) kl_X10_23 rfl rfl gwX10 dX10_child_24 ?_
      refine g_getN X uwX4 3 rfl rfl 7 (by decide) kl_X10_104 rfl rfl gwX4 dX10_child_27 ?_
      refine g_icmp_ge X 75 dX10_child_30 (by decide) (fun c30_9 => absurd c30_9 (fge (a := i) (b := n) (by omega) (by omega) (by omega))) (fun c30_9 => ?_)
      refine g_aload_n X dX10_child_33 rfl ?_
      refine g_get X uwX10 0 rfl rfl 3 (by decide) kl_X10_31 rfl rfl gwX10 dX10_child_34 ?_
      refine g_iload_n X dX10_child_37 rfl ?_
      refine g_iload X dX10_child_38 rfl ?_
      refine g_callVi X (c_X8_minutesApart V s sw sg day w h c i (by omega) (by omega)) mo_X8_minutesApart kl_X10_227 [1, 2] [0, 1, 2, 0] rfl (by decide +kernel) rfl rfl (fun _ => Nat.le_of_ble_eq_true rfl) 1 8 rfl rfl (As := [.int (nI c), .int (nI i)]) (st := []) (cs' := (0, 0)) rfl rfl rfl rfl dX10_child_40 (fun r_14 u_10 hp_11 ws_13 hw_12 => ?_)
      obtain rfl : r_14 = apartF w c i := hp_11
      have hw_12x : ws_13 = [(x0, .inr (10, [.ref t, .ref d, .ref h, .ref s, .ref o, .ref p, .ref p2, .ref ru, .ref cu, .ref br, .ref bt])), (s, .inr (8, [.ref h, .ref sw, .ref sg, .int day])), (sw, .inl (V.2.2.1, 7, .inl w)), (h, .inr (4, [.ref hk, .ref hfw, .ref hfg, .ref hwb, .ref hld, .ref hte, .ref hpu, .int (nI n), .int hwa, .int (nI m), .ref hnu, .int hto]))] := hw_12.symm
      clear hw_12; subst hw_12x
      refine g_istore X (L' := [some (.ref x0), some (.int (nI c)), some (.int be), some (.int fe), some (.int (nI i)), some (.int (apartF w c i))]) dX10_child_43 (by decide) rfl rfl ?_
      refine g_iload X dX10_child_45 rfl ?_
      refine g_iload_n X dX10_child_47 rfl ?_
      refine g_icmp_eq X 69 dX10_child_48 (by decide) (fun c48_15 => ?_) (fun c48_15 => ?_)
      · have c48_15n := ieq' (a := i) (b := c) c48_15 (by omega) (by omega)
        refine g_iinc X (v := nI (i + 1)) (L' := [some (.ref x0), some (.int (nI c)), some (.int be), some (.int fe), some (.int (nI (i + 1))), some (.int (apartF w c i))]) dX10_child_69 rfl (nI_addk (by decide)) (by decide) rfl rfl ?_
        refine g_goto X 21 dX10_child_72 (by decide) ?_
        refine g_sub (L' := [some (.ref x0), some (.int (nI c)), some (.int be), some (.int fe), some (.int (nI (i + 1))), none]) ⟨rfl, ⟨rfl, ⟨rfl, ⟨rfl, ⟨rfl, trivial⟩⟩⟩⟩⟩ ?_
        exact ih21 (i + 1) (by omega) be fe (by rw [it_s, ← h1, chiS]; simp [c48_15, c48_15n])
      · have c48_15n := ine' (a := i) (b := c) c48_15 (by omega) (by omega)
        refine g_iload_n X dX10_child_51 rfl ?_
        refine g_bipush X (-4) dX10_child_52 (by decide) ?_
        refine g_icmp_eq X 63 dX10_child_54 (by decide) (fun c54_16 => ?_) (fun c54_16 => ?_)
        · refine g_iload X dX10_child_63 rfl ?_
          refine g_istore_n X (L' := [some (.ref x0), some (.int (nI c)), some (.int (nI i)), some (.int fe), some (.int (nI i)), some (.int (apartF w c i))]) dX10_child_65 (by decide) rfl rfl ?_
          refine g_iload X dX10_child_66 rfl ?_
          refine g_istore_n X (L' := [some (.ref x0), some (.int (nI c)), some (.int (nI i)), some (.int (apartF w c i)), some (.int (nI i)), some (.int (apartF w c i))]) dX10_child_68 (by decide) rfl rfl ?_
          refine g_iinc X (v := nI (i + 1)) (L' := [some (.ref x0), some (.int (nI c)), some (.int (nI i)), some (.int (apartF w c i)), some (.int (nI (i + 1))), some (.int (apartF w c i))]) dX10_child_69 rfl (nI_addk (by decide)) (by decide) rfl rfl ?_
          refine g_goto X 21 dX10_child_72 (by decide) ?_
          refine g_sub (L' := [some (.ref x0), some (.int (nI c)), some (.int (nI i)), some (.int (apartF w c i)), some (.int (nI (i + 1))), none]) ⟨rfl, ⟨rfl, ⟨rfl, ⟨rfl, ⟨rfl, trivial⟩⟩⟩⟩⟩ ?_
          exact ih21 (i + 1) (by omega) (nI i) (apartF w c i) (by rw [it_s, ← h1, chiS]; simp [c48_15, c48_15n, c54_16])
        · refine g_iload X dX10_child_57 rfl ?_
          refine g_iload_n X dX10_child_59 rfl ?_
          refine g_icmp_ge X 69 dX10_child_60 (by decide) (fun c60_17 => ?_) (fun c60_17 => ?_)
          · have c60_17d := Int32.not_lt.mpr c60_17
            refine g_iinc X (v := nI (i + 1)) (L' := [some (.ref x0), some (.int (nI c)), some (.int be), some (.int fe), some (.int (nI (i + 1))), some (.int (apartF w c i))]) dX10_child_69 rfl (nI_addk (by decide)) (by decide) rfl rfl ?_
            refine g_goto X 21 dX10_child_72 (by decide) ?_
            refine g_sub (L' := [some (.ref x0), some (.int (nI c)), some (.int be), some (.int fe), some (.int (nI (i + 1))), none]) ⟨rfl, ⟨rfl, ⟨rfl, ⟨rfl, ⟨rfl, trivial⟩⟩⟩⟩⟩ ?_
            exact ih21 (i + 1) (by omega) be fe (by rw [it_s, ← h1, chiS]; simp [c48_15, c48_15n, c54_16, c60_17, c60_17d])
          · have c60_17d := Int32.not_le.mp c60_17
            refine g_iload X dX10_child_63 rfl ?_
            refine g_istore_n X (L' := [some (.ref x0), some (.int (nI c)), some (.int (nI i)), some (.int fe), some (.int (nI i)), some (.int (apartF w c i))]) dX10_child_65 (by decide) rfl rfl ?_
            refine g_iload X dX10_child_66 rfl ?_
            refine g_istore_n X (L' := [some (.ref x0), some (.int (nI c)), some (.int (nI i)), some (.int (apartF w c i)), some (.int (nI i)), some (.int (apartF w c i))]) dX10_child_68 (by decide) rfl rfl ?_
            refine g_iinc X (v := nI (i + 1)) (L' := [some (.ref x0), some (.int (nI c)), some (.int (nI i)), some (.int (apartF w c i)), some (.int (nI (i + 1))), some (.int (apartF w c i))]) dX10_child_69 rfl (nI_addk (by decide)) (by decide) rfl rfl ?_
            refine g_goto X 21 dX10_child_72 (by decide) ?_
            refine g_sub (L' := [some (.ref x0), some (.int (nI c)), some (.int (nI i)), some (.int (apartF w c i)), some (.int (nI (i + 1))), none]) ⟨rfl, ⟨rfl, ⟨rfl, ⟨rfl, ⟨rfl, trivial⟩⟩⟩⟩⟩ ?_
            exact ih21 (i + 1) (by omega) (nI i) (apartF w c i) (by rw [it_s, ← h1, chiS]; simp [c48_15, c48_15n, c54_16, c60_17, c60_17d])
  exact loop21_7 n 0 (by omega) (-4) 0 rfl
