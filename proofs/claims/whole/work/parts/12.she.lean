set_option maxHeartbeats 4000000 in
set_option maxRecDepth 100000 in
theorem c_X7_dropOldest (V : gV) (p : Nat) (pl : Nat) (e : Nat → Nat) (ew : Nat → Nat) (eg : Nat → Nat) (zw : Nat → Nat → Int32) (zg : Nat → Nat → Int32) (zd : Nat → Int32) (h : Nat) (held : Int32)  : Kv V yX7_dropOldest cX7_dropOldest 2 ({ frames := 2, cells := 0, slots := 0, locals := 44 }) [.ref p] [(p, .inr (7, [.ref pl, .int held])), (pl, .inl (V.2.2.2, 8, .inr (.inr (.inr (.inr (shf e)))))), (e 0, .inr (8, [.ref h, .ref (ew 0), .ref (eg 0), .int (zd 0)])), (ew 0, .inl (V.2.2.1, 7, .inl (zw 0))), (eg 0, .inl (V.2.2.1, 7, .inl (zg 0))), (e 1, .inr (8, [.ref h, .ref (ew 1), .ref (eg 1), .int (zd 1)])), (ew 1, .inl (V.2.2.1, 7, .inl (zw 1))), (eg 1, .inl (V.2.2.1, 7, .inl (zg 1))), (e 2, .inr (8, [.ref h, .ref (ew 2), .ref (eg 2), .int (zd 2)])), (ew 2, .inl (V.2.2.1, 7, .inl (zw 2))), (eg 2, .inl (V.2.2.1, 7, .inl (zg 2))), (e 3, .inr (8, [.ref h, .ref (ew 3), .ref (eg 3), .int (zd 3)])), (ew 3, .inl (V.2.2.1, 7, .inl (zw 3))), (eg 3, .inl (V.2.2.1, 7, .inl (zg 3))), (e 4, .inr (8, [.ref h, .ref (ew 4), .ref (eg 4), .int (zd 4)])), (ew 4, .inl (V.2.2.1, 7, .inl (zw 4))), (eg 4, .inl (V.2.2.1, 7, .inl (zg 4))), (e 5, .inr (8, [.ref h, .ref (ew 5), .ref (eg 5), .int (zd 5)])), (ew 5, .inl (V.2.2.1, 7, .inl (zw 5))), (eg 5, .inl (V.2.2.1, 7, .inl (zg 5))), (e 6, .inr (8, [.ref h, .ref (ew 6), .ref (eg 6), .int (zd 6)])), (ew 6, .inl (V.2.2.1, 7, .inl (zw 6))), (eg 6, .inl (V.2.2.1, 7, .inl (zg 6))), (e 7, .inr (8, [.ref h, .ref (ew 7), .ref (eg 7), .int (zd 7)])), (ew 7, .inl (V.2.2.1, 7, .inl (zw 7))), (eg 7, .inl (V.2.2.1, 7, .inl (zg 7)))] (fun u : Unit => True) (fun u => [(p, .inr (7, [.ref pl, .int 7])), (pl, .inl (V.2.2.2, 8, .inr (.inr (.inr (.inr (shf e)))))), (e 0, .inr (8, [.ref h, .ref (ew 0), .ref (eg 0), .int (zd 1)])), (ew 0, .inl (V.2.2.1, 7, .inl (zw 1))), (eg 0, .inl (V.2.2.1, 7, .inl (zg 1))), (e 1, .inr (8, [.ref h, .ref (ew 1), .ref (eg 1), .int (zd 2)])), (ew 1, .inl (V.2.2.1, 7, .inl (zw 2))), (eg 1, .inl (V.2.2.1, 7, .inl (zg 2))), (e 2, .inr (8, [.ref h, .ref (ew 2), .ref (eg 2), .int (zd 3)])), (ew 2, .inl (V.2.2.1, 7, .inl (zw 3))), (eg 2, .inl (V.2.2.1, 7, .inl (zg 3))), (e 3, .inr (8, [.ref h, .ref (ew 3), .ref (eg 3), .int (zd 4)])), (ew 3, .inl (V.2.2.1, 7, .inl (zw 4))), (eg 3, .inl (V.2.2.1, 7, .inl (zg 4))), (e 4, .inr (8, [.ref h, .ref (ew 4), .ref (eg 4), .int (zd 5)])), (ew 4, .inl (V.2.2.1, 7, .inl (zw 5))), (eg 4, .inl (V.2.2.1, 7, .inl (zg 5))), (e 5, .inr (8, [.ref h, .ref (ew 5), .ref (eg 5), .int (zd 6)])), (ew 5, .inl (V.2.2.1, 7, .inl (zw 6))), (eg 5, .inl (V.2.2.1, 7, .inl (zg 6))), (e 6, .inr (8, [.ref h, .ref (ew 6), .ref (eg 6), .int (zd 7)])), (ew 6, .inl (V.2.2.1, 7, .inl (zw 7))), (eg 6, .inl (V.2.2.1, 7, .inl (zg 7))), (e 7, .inr (8, [.ref h, .ref (ew 7), .ref (eg 7), .int (zd 7)])), (ew 7, .inl (V.2.2.1, 7, .inl (zw 7))), (eg 7, .inl (V.2.2.1, 7, .inl (zg 7)))]) := by
  refine Kv.of [some (.ref p), none] (by decide) (Nat.le_of_ble_eq_true rfl) rfl rfl ?_
  intro Z X E
  have X : gX V Z RX7 cX7_dropOldest 2 ({ frames := 2, cells := 0, slots := 0, locals := 44 }) := X
  refine g_iconst X (0) dX7_dropOldest_0 (by decide) ?_
  refine g_istore_n X (L' := [some (.ref p), some (.int 0)]) dX7_dropOldest_1 (by decide) rfl rfl ?_
  refine g_iload_n X dX7_dropOldest_2 rfl ?_
  refine g_iconst X (1) dX7_dropOldest_3 (by decide) ?_
  refine g_iadd X dX7_dropOldest_4 ?_
  refine g_toe (x' := 1) (by decide) ?_
  refine g_aload_n X dX7_dropOldest_5 rfl ?_
  refine g_get X uwX7 0 rfl rfl 0 (by decide) kl_X7_21 rfl rfl gwX7 dX7_dropOldest_6 ?_
  refine g_alenq X 1 (8) rfl rfl dX7_dropOldest_9 ?_
  refine g_icmp_ge X 56 dX7_dropOldest_10 (by decide) (fun c10_1 => absurd c10_1 (by decide)) (fun c10_1 => ?_)
  refine g_aload_n X dX7_dropOldest_13 rfl ?_
  refine g_get X uwX7 0 rfl rfl 0 (by decide) kl_X7_21 rfl rfl gwX7 dX7_dropOldest_14 ?_
  refine g_iload_n X dX7_dropOldest_17 rfl ?_
  refine g_aald' X 1 (.ref (e 0)) rfl (i := 0) rfl (by decide) (by decide) rfl dX7_dropOldest_18 ?_
  refine g_ifnull X dX7_dropOldest_19 ?_
  refine g_aload_n X dX7_dropOldest_22 rfl ?_
  refine g_get X uwX7 0 rfl rfl 0 (by decide) kl_X7_21 rfl rfl gwX7 dX7_dropOldest_23 ?_
  refine g_iload_n X dX7_dropOldest_26 rfl ?_
  refine g_iconst X (1) dX7_dropOldest_27 (by decide) ?_
  refine g_iadd X dX7_dropOldest_28 ?_
  refine g_toe (x' := 1) (by decide) ?_
  refine g_aald' X 1 (.ref (e 1)) rfl (i := 1) rfl (by decide) (by decide) rfl dX7_dropOldest_29 ?_
  refine g_ifnull X dX7_dropOldest_30 ?_
  refine g_aload_n X dX7_dropOldest_33 rfl ?_
  refine g_get X uwX7 0 rfl rfl 0 (by decide) kl_X7_21 rfl rfl gwX7 dX7_dropOldest_34 ?_
  refine g_iload_n X dX7_dropOldest_37 rfl ?_
  refine g_aald' X 1 (.ref (e 0)) rfl (i := 0) rfl (by decide) (by decide) rfl dX7_dropOldest_38 ?_
  refine g_aload_n X dX7_dropOldest_39 rfl ?_
  refine g_get X uwX7 0 rfl rfl 0 (by decide) kl_X7_21 rfl rfl gwX7 dX7_dropOldest_40 ?_
  refine g_iload_n X dX7_dropOldest_43 rfl ?_
  refine g_iconst X (1) dX7_dropOldest_44 (by decide) ?_
  refine g_iadd X dX7_dropOldest_45 ?_
  refine g_toe (x' := 1) (by decide) ?_
  refine g_aald' X 1 (.ref (e 1)) rfl (i := 1) rfl (by decide) (by decide) rfl dX7_dropOldest_46 ?_
  refine g_callVv X (c_X8_takeFrom V (e 0) (ew 0) (eg 0) (zd 0) (zw 0) (zg 0) h (e 1) (ew 1) (eg 1) h (zd 1) (zw 1) (zg 1)) mo_X8_takeFrom kl_X7_31 [2, 3, 4, 5, 6, 7] [0, 0, 1, 2, 3, 4, 5, 6, 0, 0, 0, 0, 0, 0, 0, 0, 0, 0, 0, 0, 0, 0, 0, 0, 0, 0] rfl (by decide +kernel) rfl rfl (fun _ => Nat.le_of_ble_eq_true rfl) 2 8 rfl rfl (As := [.ref (e 1)]) (st := []) (cs' := (0, 0)) rfl rfl rfl rfl dX7_dropOldest_47 (fun u_2 hp_3 ws_5 hw_4 => ?_)
  have hw_4x : ws_5 = [(p, .inr (7, [.ref pl, .int held])), (pl, .inl (V.2.2.2, 8, .inr (.inr (.inr (.inr (shf e)))))), (e 0, .inr (8, [.ref h, .ref (ew 0), .ref (eg 0), .int (zd 1)])), (ew 0, .inl (V.2.2.1, 7, .inl (zw 1))), (eg 0, .inl (V.2.2.1, 7, .inl (zg 1))), (e 1, .inr (8, [.ref h, .ref (ew 1), .ref (eg 1), .int (zd 1)])), (ew 1, .inl (V.2.2.1, 7, .inl (zw 1))), (eg 1, .inl (V.2.2.1, 7, .inl (zg 1))), (e 2, .inr (8, [.ref h, .ref (ew 2), .ref (eg 2), .int (zd 2)])), (ew 2, .inl (V.2.2.1, 7, .inl (zw 2))), (eg 2, .inl (V.2.2.1, 7, .inl (zg 2))), (e 3, .inr (8, [.ref h, .ref (ew 3), .ref (eg 3), .int (zd 3)])), (ew 3, .inl (V.2.2.1, 7, .inl (zw 3))), (eg 3, .inl (V.2.2.1, 7, .inl (zg 3))), (e 4, .inr (8, [.ref h, .ref (ew 4), .ref (eg 4), .int (zd 4)])), (ew 4, .inl (V.2.2.1, 7, .inl (zw 4))), (eg 4, .inl (V.2.2.1, 7, .inl (zg 4))), (e 5, .inr (8, [.ref h, .ref (ew 5), .ref (eg 5), .int (zd 5)])), (ew 5, .inl (V.2.2.1, 7, .inl (zw 5))), (eg 5, .inl (V.2.2.1, 7, .inl (zg 5))), (e 6, .inr (8, [.ref h, .ref (ew 6), .ref (eg 6), .int (zd 6)])), (ew 6, .inl (V.2.2.1, 7, .inl (zw 6))), (eg 6, .inl (V.2.2.1, 7, .inl (zg 6))), (e 7, .inr (8, [.ref h, .ref (ew 7), .ref (eg 7), .int (zd 7)])), (ew 7, .inl (V.2.2.1, 7, .inl (zw 7))), (eg 7, .inl (V.2.2.1, 7, .inl (zg 7)))] := hw_4.symm
  clear hw_4; subst hw_4x
  refine g_iinc X (v := 1) (L' := [some (.ref p), some (.int 1)]) dX7_dropOldest_50 rfl (by decide) (by decide) rfl rfl ?_
  refine g_goto X 2 dX7_dropOldest_53 (by decide) ?_
  refine g_iload_n X dX7_dropOldest_2 rfl ?_
  refine g_iconst X (1) dX7_dropOldest_3 (by decide) ?_
  refine g_iadd X dX7_dropOldest_4 ?_
  refine g_toe (x' := 2) (by decide) ?_
  refine g_aload_n X dX7_dropOldest_5 rfl ?_
  refine g_get X uwX7 0 rfl rfl 0 (by decide) kl_X7_21 rfl rfl gwX7 dX7_dropOldest_6 ?_
  refine g_alenq X 1 (8) rfl rfl dX7_dropOldest_9 ?_
  refine g_icmp_ge X 56 dX7_dropOldest_10 (by decide) (fun c10_7 => absurd c10_7 (by decide)) (fun c10_7 => ?_)
  refine g_aload_n X dX7_dropOldest_13 rfl ?_
  refine g_get X uwX7 0 rfl rfl 0 (by decide) kl_X7_21 rfl rfl gwX7 dX7_dropOldest_14 ?_
  refine g_iload_n X dX7_dropOldest_17 rfl ?_
  refine g_aald' X 1 (.ref (e 1)) rfl (i := 1) rfl (by decide) (by decide) rfl dX7_dropOldest_18 ?_
  refine g_ifnull X dX7_dropOldest_19 ?_
  refine g_aload_n X dX7_dropOldest_22 rfl ?_
  refine g_get X uwX7 0 rfl rfl 0 (by decide) kl_X7_21 rfl rfl gwX7 dX7_dropOldest_23 ?_
  refine g_iload_n X dX7_dropOldest_26 rfl ?_
  refine g_iconst X (1) dX7_dropOldest_27 (by decide) ?_
  refine g_iadd X dX7_dropOldest_28 ?_
  refine g_toe (x' := 2) (by decide) ?_
  refine g_aald' X 1 (.ref (e 2)) rfl (i := 2) rfl (by decide) (by decide) rfl dX7_dropOldest_29 ?_
  refine g_ifnull X dX7_dropOldest_30 ?_
  refine g_aload_n X dX7_dropOldest_33 rfl ?_
  refine g_get X uwX7 0 rfl rfl 0 (by decide) kl_X7_21 rfl rfl gwX7 dX7_dropOldest_34 ?_
  refine g_iload_n X dX7_dropOldest_37 rfl ?_
  refine g_aald' X 1 (.ref (e 1)) rfl (i := 1) rfl (by decide) (by decide) rfl dX7_dropOldest_38 ?_
  refine g_aload_n X dX7_dropOldest_39 rfl ?_
  refine g_get X uwX7 0 rfl rfl 0 (by decide) kl_X7_21 rfl rfl gwX7 dX7_dropOldest_40 ?_
  refine g_iload_n X dX7_dropOldest_43 rfl ?_
  refine g_iconst X (1) dX7_dropOldest_44 (by decide) ?_
  refine g_iadd X dX7_dropOldest_45 ?_
  refine g_toe (x' := 2) (by decide) ?_
  refine g_aald' X 1 (.ref (e 2)) rfl (i := 2) rfl (by decide) (by decide) rfl dX7_dropOldest_46 ?_
  refine g_callVv X (c_X8_takeFrom V (e 1) (ew 1) (eg 1) (zd 1) (zw 1) (zg 1) h (e 2) (ew 2) (eg 2) h (zd 2) (zw 2) (zg 2)) mo_X8_takeFrom kl_X7_31 [5, 6, 7, 8, 9, 10] [0, 0, 0, 0, 0, 1, 2, 3, 4, 5, 6, 0, 0, 0, 0, 0, 0, 0, 0, 0, 0, 0, 0, 0, 0, 0] rfl (by decide +kernel) rfl rfl (fun _ => Nat.le_of_ble_eq_true rfl) 5 8 rfl rfl (As := [.ref (e 2)]) (st := []) (cs' := (0, 0)) rfl rfl rfl rfl dX7_dropOldest_47 (fun u_8 hp_9 ws_11 hw_10 => ?_)
  have hw_10x : ws_11 = [(p, .inr (7, [.ref pl, .int held])), (pl, .inl (V.2.2.2, 8, .inr (.inr (.inr (.inr (shf e)))))), (e 0, .inr (8, [.ref h, .ref (ew 0), .ref (eg 0), .int (zd 1)])), (ew 0, .inl (V.2.2.1, 7, .inl (zw 1))), (eg 0, .inl (V.2.2.1, 7, .inl (zg 1))), (e 1, .inr (8, [.ref h, .ref (ew 1), .ref (eg 1), .int (zd 2)])), (ew 1, .inl (V.2.2.1, 7, .inl (zw 2))), (eg 1, .inl (V.2.2.1, 7, .inl (zg 2))), (e 2, .inr (8, [.ref h, .ref (ew 2), .ref (eg 2), .int (zd 2)])), (ew 2, .inl (V.2.2.1, 7, .inl (zw 2))), (eg 2, .inl (V.2.2.1, 7, .inl (zg 2))), (e 3, .inr (8, [.ref h, .ref (ew 3), .ref (eg 3), .int (zd 3)])), (ew 3, .inl (V.2.2.1, 7, .inl (zw 3))), (eg 3, .inl (V.2.2.1, 7, .inl (zg 3))), (e 4, .inr (8, [.ref h, .ref (ew 4), .ref (eg 4), .int (zd 4)])), (ew 4, .inl (V.2.2.1, 7, .inl (zw 4))), (eg 4, .inl (V.2.2.1, 7, .inl (zg 4))), (e 5, .inr (8, [.ref h, .ref (ew 5), .ref (eg 5), .int (zd 5)])), (ew 5, .inl (V.2.2.1, 7, .inl (zw 5))), (eg 5, .inl (V.2.2.1, 7, .inl (zg 5))), (e 6, .inr (8, [.ref h, .ref (ew 6), .ref (eg 6), .int (zd 6)])), (ew 6, .inl (V.2.2.1, 7, .inl (zw 6))), (eg 6, .inl (V.2.2.1, 7, .inl (zg 6))), (e 7, .inr (8, [.ref h, .ref (ew 7), .ref (eg 7), .int (zd 7)])), (ew 7, .inl (V.2.2.1, 7, .inl (zw 7))), (eg 7, .inl (V.2.2.1, 7, .inl (zg 7)))] := hw_10.symm
  clear hw_10; subst hw_10x
  refine g_iinc X (v := 2) (L' := [some (.ref p), some (.int 2)]) dX7_dropOldest_50 rfl (by decide) (by decide) rfl rfl ?_
  refine g_goto X 2 dX7_dropOldest_53 (by decide) ?_
  refine g_iload_n X dX7_dropOldest_2 rfl ?_
  refine g_iconst X (1) dX7_dropOldest_3 (by decide) ?_
  refine g_iadd X dX7_dropOldest_4 ?_
  refine g_toe (x' := 3) (by decide) ?_
  refine g_aload_n X dX7_dropOldest_5 rfl ?_
  refine g_get X uwX7 0 rfl rfl 0 (by decide) kl_X7_21 rfl rfl gwX7 dX7_dropOldest_6 ?_
  refine g_alenq X 1 (8) rfl rfl dX7_dropOldest_9 ?_
  refine g_icmp_ge X 56 dX7_dropOldest_10 (by decide) (fun c10_13 => absurd c10_13 (by decide)) (fun c10_13 => ?_)
  refine g_aload_n X dX7_dropOldest_13 rfl ?_
  refine g_get X uwX7 0 rfl rfl 0 (by decide) kl_X7_21 rfl rfl gwX7 dX7_dropOldest_14 ?_
  refine g_iload_n X dX7_dropOldest_17 rfl ?_
  refine g_aald' X 1 (.ref (e 2)) rfl (i := 2) rfl (by decide) (by decide) rfl dX7_dropOldest_18 ?_
  refine g_ifnull X dX7_dropOldest_19 ?_
  refine g_aload_n X dX7_dropOldest_22 rfl ?_
  refine g_get X uwX7 0 rfl rfl 0 (by decide) kl_X7_21 rfl rfl gwX7 dX7_dropOldest_23 ?_
  refine g_iload_n X dX7_dropOldest_26 rfl ?_
  refine g_iconst X (1) dX7_dropOldest_27 (by decide) ?_
  refine g_iadd X dX7_dropOldest_28 ?_
  refine g_toe (x' := 3) (by decide) ?_
  refine g_aald' X 1 (.ref (e 3)) rfl (i := 3) rfl (by decide) (by decide) rfl dX7_dropOldest_29 ?_
  refine g_ifnull X dX7_dropOldest_30 ?_
  refine g_aload_n X dX7_dropOldest_33 rfl ?_
  refine g_get X uwX7 0 rfl rfl 0 (by decide) kl_X7_21 rfl rfl gwX7 dX7_dropOldest_34 ?_
  refine g_iload_n X dX7_dropOldest_37 rfl ?_
  refine g_aald' X 1 (.ref (e 2)) rfl (i := 2) rfl (by decide) (by decide) rfl dX7_dropOldest_38 ?_
  refine g_aload_n X dX7_dropOldest_39 rfl ?_
  refine g_get X uwX7 0 rfl rfl 0 (by decide) kl_X7_21 rfl rfl gwX7 dX7_dropOldest_40 ?_
  refine g_iload_n X dX7_dropOldest_43 rfl ?_
  refine g_iconst X (1) dX7_dropOldest_44 (by decide) ?_
  refine g_iadd X dX7_dropOldest_45 ?_
  refine g_toe (x' := 3) (by decide) ?_
  refine g_aald' X 1 (.ref (e 3)) rfl (i := 3) rfl (by decide) (by decide) rfl dX7_dropOldest_46 ?_
  refine g_callVv X (c_X8_takeFrom V (e 2) (ew 2) (eg 2) (zd 2) (zw 2) (zg 2) h (e 3) (ew 3) (eg 3) h (zd 3) (zw 3) (zg 3)) mo_X8_takeFrom kl_X7_31 [8, 9, 10, 11, 12, 13] [0, 0, 0, 0, 0, 0, 0, 0, 1, 2, 3, 4, 5, 6, 0, 0, 0, 0, 0, 0, 0, 0, 0, 0, 0, 0] rfl (by decide +kernel) rfl rfl (fun _ => Nat.le_of_ble_eq_true rfl) 8 8 rfl rfl (As := [.ref (e 3)]) (st := []) (cs' := (0, 0)) rfl rfl rfl rfl dX7_dropOldest_47 (fun u_14 hp_15 ws_17 hw_16 => ?_)
  have hw_16x : ws_17 = [(p, .inr (7, [.ref pl, .int held])), (pl, .inl (V.2.2.2, 8, .inr (.inr (.inr (.inr (shf e)))))), (e 0, .inr (8, [.ref h, .ref (ew 0), .ref (eg 0), .int (zd 1)])), (ew 0, .inl (V.2.2.1, 7, .inl (zw 1))), (eg 0, .inl (V.2.2.1, 7, .inl (zg 1))), (e 1, .inr (8, [.ref h, .ref (ew 1), .ref (eg 1), .int (zd 2)])), (ew 1, .inl (V.2.2.1, 7, .inl (zw 2))), (eg 1, .inl (V.2.2.1, 7, .inl (zg 2))), (e 2, .inr (8, [.ref h, .ref (ew 2), .ref (eg 2), .int (zd 3)])), (ew 2, .inl (V.2.2.1, 7, .inl (zw 3))), (eg 2, .inl (V.2.2.1, 7, .inl (zg 3))), (e 3, .inr (8, [.ref h, .ref (ew 3), .ref (eg 3), .int (zd 3)])), (ew 3, .inl (V.2.2.1, 7, .inl (zw 3))), (eg 3, .inl (V.2.2.1, 7, .inl (zg 3))), (e 4, .inr (8, [.ref h, .ref (ew 4), .ref (eg 4), .int (zd 4)])), (ew 4, .inl (V.2.2.1, 7, .inl (zw 4))), (eg 4, .inl (V.2.2.1, 7, .inl (zg 4))), (e 5, .inr (8, [.ref h, .ref (ew 5), .ref (eg 5), .int (zd 5)])), (ew 5, .inl (V.2.2.1, 7, .inl (zw 5))), (eg 5, .inl (V.2.2.1, 7, .inl (zg 5))), (e 6, .inr (8, [.ref h, .ref (ew 6), .ref (eg 6), .int (zd 6)])), (ew 6, .inl (V.2.2.1, 7, .inl (zw 6))), (eg 6, .inl (V.2.2.1, 7, .inl (zg 6))), (e 7, .inr (8, [.ref h, .ref (ew 7), .ref (eg 7), .int (zd 7)])), (ew 7, .inl (V.2.2.1, 7, .inl (zw 7))), (eg 7, .inl (V.2.2.1, 7, .inl (zg 7)))] := hw_16.symm
  clear hw_16; subst hw_16x
  refine g_iinc X (v := 3) (L' := [some (.ref p), some (.int 3)]) dX7_dropOldest_50 rfl (by decide) (by decide) rfl rfl ?_
  refine g_goto X 2 dX7_dropOldest_53 (by decide) ?_
  refine g_iload_n X dX7_dropOldest_2 rfl ?_
  refine g_iconst X (1) dX7_dropOldest_3 (by decide) ?_
  refine g_iadd X dX7_dropOldest_4 ?_
  refine g_toe (x' := 4) (by decide) ?_
  refine g_aload_n X dX7_dropOldest_5 rfl ?_
  refine g_get X uwX7 0 rfl rfl 0 (by decide) kl_X7_21 rfl rfl gwX7 dX7_dropOldest_6 ?_
  refine g_alenq X 1 (8) rfl rfl dX7_dropOldest_9 ?_
  refine g_icmp_ge X 56 dX7_dropOldest_10 (by decide) (fun c10_19 => absurd c10_19 (by decide)) (fun c10_19 => ?_)
  refine g_aload_n X dX7_dropOldest_13 rfl ?_
  refine g_get X uwX7 0 rfl rfl 0 (by decide) kl_X7_21 rfl rfl gwX7 dX7_dropOldest_14 ?_
  refine g_iload_n X dX7_dropOldest_17 rfl ?_
  refine g_aald' X 1 (.ref (e 3)) rfl (i := 3) rfl (by decide) (by decide) rfl dX7_dropOldest_18 ?_
  refine g_ifnull X dX7_dropOldest_19 ?_
  refine g_aload_n X dX7_dropOldest_22 rfl ?_
  refine g_get X uwX7 0 rfl rfl 0 (by decide) kl_X7_21 rfl rfl gwX7 dX7_dropOldest_23 ?_
  refine g_iload_n X dX7_dropOldest_26 rfl ?_
  refine g_iconst X (1) dX7_dropOldest_27 (by decide) ?_
  refine g_iadd X dX7_dropOldest_28 ?_
  refine g_toe (x' := 4) (by decide) ?_
  refine g_aald' X 1 (.ref (e 4)) rfl (i := 4) rfl (by decide) (by decide) rfl dX7_dropOldest_29 ?_
  refine g_ifnull X dX7_dropOldest_30 ?_
  refine g_aload_n X dX7_dropOldest_33 rfl ?_
  refine g_get X uwX7 0 rfl rfl 0 (by decide) kl_X7_21 rfl rfl gwX7 dX7_dropOldest_34 ?_
  refine g_iload_n X dX7_dropOldest_37 rfl ?_
  refine g_aald' X 1 (.ref (e 3)) rfl (i := 3) rfl (by decide) (by decide) rfl dX7_dropOldest_38 ?_
  refine g_aload_n X dX7_dropOldest_39 rfl ?_
  refine g_get X uwX7 0 rfl rfl 0 (by decide) kl_X7_21 rfl rfl gwX7 dX7_dropOldest_40 ?_
  refine g_iload_n X dX7_dropOldest_43 rfl ?_
  refine g_iconst X (1) dX7_dropOldest_44 (by decide) ?_
  refine g_iadd X dX7_dropOldest_45 ?_
  refine g_toe (x' := 4) (by decide) ?_
  refine g_aald' X 1 (.ref (e 4)) rfl (i := 4) rfl (by decide) (by decide) rfl dX7_dropOldest_46 ?_
  refine g_callVv X (c_X8_takeFrom V (e 3) (ew 3) (eg 3) (zd 3) (zw 3) (zg 3) h (e 4) (ew 4) (eg 4) h (zd 4) (zw 4) (zg 4)) mo_X8_takeFrom kl_X7_31 [11, 12, 13, 14, 15, 16] [0, 0, 0, 0, 0, 0, 0, 0, 0, 0, 0, 1, 2, 3, 4, 5, 6, 0, 0, 0, 0, 0, 0, 0, 0, 0] rfl (by decide +kernel) rfl rfl (fun _ => Nat.le_of_ble_eq_true rfl) 11 8 rfl rfl (As := [.ref (e 4)]) (st := []) (cs' := (0, 0)) rfl rfl rfl rfl dX7_dropOldest_47 (fun u_20 hp_21 ws_23 hw_22 => ?_)
  have hw_22x : ws_23 = [(p, .inr (7, [.ref pl, .int held])), (pl, .inl (V.2.2.2, 8, .inr (.inr (.inr (.inr (shf e)))))), (e 0, .inr (8, [.ref h, .ref (ew 0), .ref (eg 0), .int (zd 1)])), (ew 0, .inl (V.2.2.1, 7, .inl (zw 1))), (eg 0, .inl (V.2.2.1, 7, .inl (zg 1))), (e 1, .inr (8, [.ref h, .ref (ew 1), .ref (eg 1), .int (zd 2)])), (ew 1, .inl (V.2.2.1, 7, .inl (zw 2))), (eg 1, .inl (V.2.2.1, 7, .inl (zg 2))), (e 2, .inr (8, [.ref h, .ref (ew 2), .ref (eg 2), .int (zd 3)])), (ew 2, .inl (V.2.2.1, 7, .inl (zw 3))), (eg 2, .inl (V.2.2.1, 7, .inl (zg 3))), (e 3, .inr (8, [.ref h, .ref (ew 3), .ref (eg 3), .int (zd 4)])), (ew 3, .inl (V.2.2.1, 7, .inl (zw 4))), (eg 3, .inl (V.2.2.1, 7, .inl (zg 4))), (e 4, .inr (8, [.ref h, .ref (ew 4), .ref (eg 4), .int (zd 4)])), (ew 4, .inl (V.2.2.1, 7, .inl (zw 4))), (eg 4, .inl (V.2.2.1, 7, .inl (zg 4))), (e 5, .inr (8, [.ref h, .ref (ew 5), .ref (eg 5), .int (zd 5)])), (ew 5, .inl (V.2.2.1, 7, .inl (zw 5))), (eg 5, .inl (V.2.2.1, 7, .inl (zg 5))), (e 6, .inr (8, [.ref h, .ref (ew 6), .ref (eg 6), .int (zd 6)])), (ew 6, .inl (V.2.2.1, 7, .inl (zw 6))), (eg 6, .inl (V.2.2.1, 7, .inl (zg 6))), (e 7, .inr (8, [.ref h, .ref (ew 7), .ref (eg 7), .int (zd 7)])), (ew 7, .inl (V.2.2.1, 7, .inl (zw 7))), (eg 7, .inl (V.2.2.1, 7, .inl (zg 7)))] := hw_22.symm
  clear hw_22; subst hw_22x
  refine g_iinc X (v := 4) (L' := [some (.ref p), some (.int 4)]) dX7_dropOldest_50 rfl (by decide) (by decide) rfl rfl ?_
  refine g_goto X 2 dX7_dropOldest_53 (by decide) ?_
  refine g_iload_n X dX7_dropOldest_2 rfl ?_
  refine g_iconst X (1) dX7_dropOldest_3 (by decide) ?_
  refine g_iadd X dX7_dropOldest_4 ?_
  refine g_toe (x' := 5) (by decide) ?_
  refine g_aload_n X dX7_dropOldest_5 rfl ?_
  refine g_get X uwX7 0 rfl rfl 0 (by decide) kl_X7_21 rfl rfl gwX7 dX7_dropOldest_6 ?_
  refine g_alenq X 1 (8) rfl rfl dX7_dropOldest_9 ?_
  refine g_icmp_ge X 56 dX7_dropOldest_10 (by decide) (fun c10_25 => absurd c10_25 (by decide)) (fun c10_25 => ?_)
  refine g_aload_n X dX7_dropOldest_13 rfl ?_
  refine g_get X uwX7 0 rfl rfl 0 (by decide) kl_X7_21 rfl rfl gwX7 dX7_dropOldest_14 ?_
  refine g_iload_n X dX7_dropOldest_17 rfl ?_
  refine g_aald' X 1 (.ref (e 4)) rfl (i := 4) rfl (by decide) (by decide) rfl dX7_dropOldest_18 ?_
  refine g_ifnull X dX7_dropOldest_19 ?_
  refine g_aload_n X dX7_dropOldest_22 rfl ?_
  refine g_get X uwX7 0 rfl rfl 0 (by decide) kl_X7_21 rfl rfl gwX7 dX7_dropOldest_23 ?_
  refine g_iload_n X dX7_dropOldest_26 rfl ?_
  refine g_iconst X (1) dX7_dropOldest_27 (by decide) ?_
  refine g_iadd X dX7_dropOldest_28 ?_
  refine g_toe (x' := 5) (by decide) ?_
  refine g_aald' X 1 (.ref (e 5)) rfl (i := 5) rfl (by decide) (by decide) rfl dX7_dropOldest_29 ?_
  refine g_ifnull X dX7_dropOldest_30 ?_
  refine g_aload_n X dX7_dropOldest_33 rfl ?_
  refine g_get X uwX7 0 rfl rfl 0 (by decide) kl_X7_21 rfl rfl gwX7 dX7_dropOldest_34 ?_
  refine g_iload_n X dX7_dropOldest_37 rfl ?_
  refine g_aald' X 1 (.ref (e 4)) rfl (i := 4) rfl (by decide) (by decide) rfl dX7_dropOldest_38 ?_
  refine g_aload_n X dX7_dropOldest_39 rfl ?_
  refine g_get X uwX7 0 rfl rfl 0 (by decide) kl_X7_21 rfl rfl gwX7 dX7_dropOldest_40 ?_
  refine g_iload_n X dX7_dropOldest_43 rfl ?_
  refine g_iconst X (1) dX7_dropOldest_44 (by decide) ?_
  refine g_iadd X dX7_dropOldest_45 ?_
  refine g_toe (x' := 5) (by decide) ?_
  refine g_aald' X 1 (.ref (e 5)) rfl (i := 5) rfl (by decide) (by decide) rfl dX7_dropOldest_46 ?_
  refine g_callVv X (c_X8_takeFrom V (e 4) (ew 4) (eg 4) (zd 4) (zw 4) (zg 4) h (e 5) (ew 5) (eg 5) h (zd 5) (zw 5) (zg 5)) mo_X8_takeFrom kl_X7_31 [14, 15, 16, 17, 18, 19] [0, 0, 0, 0, 0, 0, 0, 0, 0, 0, 0, 0, 0, 0, 1, 2, 3, 4, 5, 6, 0, 0, 0, 0, 0, 0] rfl (by decide +kernel) rfl rfl (fun _ => Nat.le_of_ble_eq_true rfl) 14 8 rfl rfl (As := [.ref (e 5)]) (st := []) (cs' := (0, 0)) rfl rfl rfl rfl dX7_dropOldest_47 (fun u_26 hp_27 ws_29 hw_28 => ?_)
  have hw_28x : ws_29 = [(p, .inr (7, [.ref pl, .int held])), (pl, .inl (V.2.2.2, 8, .inr (.inr (.inr (.inr (shf e)))))), (e 0, .inr (8, [.ref h, .ref (ew 0), .ref (eg 0), .int (zd 1)])), (ew 0, .inl (V.2.2.1, 7, .inl (zw 1))), (eg 0, .inl (V.2.2.1, 7, .inl (zg 1))), (e 1, .inr (8, [.ref h, .ref (ew 1), .ref (eg 1), .int (zd 2)])), (ew 1, .inl (V.2.2.1, 7, .inl (zw 2))), (eg 1, .inl (V.2.2.1, 7, .inl (zg 2))), (e 2, .inr (8, [.ref h, .ref (ew 2), .ref (eg 2), .int (zd 3)])), (ew 2, .inl (V.2.2.1, 7, .inl (zw 3))), (eg 2, .inl (V.2.2.1, 7, .inl (zg 3))), (e 3, .inr (8, [.ref h, .ref (ew 3), .ref (eg 3), .int (zd 4)])), (ew 3, .inl (V.2.2.1, 7, .inl (zw 4))), (eg 3, .inl (V.2.2.1, 7, .inl (zg 4))), (e 4, .inr (8, [.ref h, .ref (ew 4), .ref (eg 4), .int (zd 5)])), (ew 4, .inl (V.2.2.1, 7, .inl (zw 5))), (eg 4, .inl (V.2.2.1, 7, .inl (zg 5))), (e 5, .inr (8, [.ref h, .ref (ew 5), .ref (eg 5), .int (zd 5)])), (ew 5, .inl (V.2.2.1, 7, .inl (zw 5))), (eg 5, .inl (V.2.2.1, 7, .inl (zg 5))), (e 6, .inr (8, [.ref h, .ref (ew 6), .ref (eg 6), .int (zd 6)])), (ew 6, .inl (V.2.2.1, 7, .inl (zw 6))), (eg 6, .inl (V.2.2.1, 7, .inl (zg 6))), (e 7, .inr (8, [.ref h, .ref (ew 7), .ref (eg 7), .int (zd 7)])), (ew 7, .inl (V.2.2.1, 7, .inl (zw 7))), (eg 7, .inl (V.2.2.1, 7, .inl (zg 7)))] := hw_28.symm
  clear hw_28; subst hw_28x
  refine g_iinc X (v := 5) (L' := [some (.ref p), some (.int 5)]) dX7_dropOldest_50 rfl (by decide) (by decide) rfl rfl ?_
  refine g_goto X 2 dX7_dropOldest_53 (by decide) ?_
  refine g_iload_n X dX7_dropOldest_2 rfl ?_
  refine g_iconst X (1) dX7_dropOldest_3 (by decide) ?_
  refine g_iadd X dX7_dropOldest_4 ?_
  refine g_toe (x' := 6) (by decide) ?_
  refine g_aload_n X dX7_dropOldest_5 rfl ?_
  refine g_get X uwX7 0 rfl rfl 0 (by decide) kl_X7_21 rfl rfl gwX7 dX7_dropOldest_6 ?_
  refine g_alenq X 1 (8) rfl rfl dX7_dropOldest_9 ?_
  refine g_icmp_ge X 56 dX7_dropOldest_10 (by decide) (fun c10_31 => absurd c10_31 (by decide)) (fun c10_31 => ?_)
  refine g_aload_n X dX7_dropOldest_13 rfl ?_
  refine g_get X uwX7 0 rfl rfl 0 (by decide) kl_X7_21 rfl rfl gwX7 dX7_dropOldest_14 ?_
  refine g_iload_n X dX7_dropOldest_17 rfl ?_
  refine g_aald' X 1 (.ref (e 5)) rfl (i := 5) rfl (by decide) (by decide) rfl dX7_dropOldest_18 ?_
  refine g_ifnull X dX7_dropOldest_19 ?_
  refine g_aload_n X dX7_dropOldest_22 rfl ?_
  refine g_get X uwX7 0 rfl rfl 0 (by decide) kl_X7_21 rfl rfl gwX7 dX7_dropOldest_23 ?_
  refine g_iload_n X dX7_dropOldest_26 rfl ?_
  refine g_iconst X (1) dX7_dropOldest_27 (by decide) ?_
  refine g_iadd X dX7_dropOldest_28 ?_
  refine g_toe (x' := 6) (by decide) ?_
  refine g_aald' X 1 (.ref (e 6)) rfl (i := 6) rfl (by decide) (by decide) rfl dX7_dropOldest_29 ?_
  refine g_ifnull X dX7_dropOldest_30 ?_
  refine g_aload_n X dX7_dropOldest_33 rfl ?_
  refine g_get X uwX7 0 rfl rfl 0 (by decide) kl_X7_21 rfl rfl gwX7 dX7_dropOldest_34 ?_
  refine g_iload_n X dX7_dropOldest_37 rfl ?_
  refine g_aald' X 1 (.ref (e 5)) rfl (i := 5) rfl (by decide) (by decide) rfl dX7_dropOldest_38 ?_
  refine g_aload_n X dX7_dropOldest_39 rfl ?_
  refine g_get X uwX7 0 rfl rfl 0 (by decide) kl_X7_21 rfl rfl gwX7 dX7_dropOldest_40 ?_
  refine g_iload_n X dX7_dropOldest_43 rfl ?_
  refine g_iconst X (1) dX7_dropOldest_44 (by decide) ?_
  refine g_iadd X dX7_dropOldest_45 ?_
  refine g_toe (x' := 6) (by decide) ?_
  refine g_aald' X 1 (.ref (e 6)) rfl (i := 6) rfl (by decide) (by decide) rfl dX7_dropOldest_46 ?_
  refine g_callVv X (c_X8_takeFrom V (e 5) (ew 5) (eg 5) (zd 5) (zw 5) (zg 5) h (e 6) (ew 6) (eg 6) h (zd 6) (zw 6) (zg 6)) mo_X8_takeFrom kl_X7_31 [17, 18, 19, 20, 21, 22] [0, 0, 0, 0, 0, 0, 0, 0, 0, 0, 0, 0, 0, 0, 0, 0, 0, 1, 2, 3, 4, 5, 6, 0, 0, 0] rfl (by decide +kernel) rfl rfl (fun _ => Nat.le_of_ble_eq_true rfl) 17 8 rfl rfl (As := [.ref (e 6)]) (st := []) (cs' := (0, 0)) rfl rfl rfl rfl dX7_dropOldest_47 (fun u_32 hp_33 ws_35 hw_34 => ?_)
  have hw_34x : ws_35 = [(p, .inr (7, [.ref pl, .int held])), (pl, .inl (V.2.2.2, 8, .inr (.inr (.inr (.inr (shf e)))))), (e 0, .inr (8, [.ref h, .ref (ew 0), .ref (eg 0), .int (zd 1)])), (ew 0, .inl (V.2.2.1, 7, .inl (zw 1))), (eg 0, .inl (V.2.2.1, 7, .inl (zg 1))), (e 1, .inr (8, [.ref h, .ref (ew 1), .ref (eg 1), .int (zd 2)])), (ew 1, .inl (V.2.2.1, 7, .inl (zw 2))), (eg 1, .inl (V.2.2.1, 7, .inl (zg 2))), (e 2, .inr (8, [.ref h, .ref (ew 2), .ref (eg 2), .int (zd 3)])), (ew 2, .inl (V.2.2.1, 7, .inl (zw 3))), (eg 2, .inl (V.2.2.1, 7, .inl (zg 3))), (e 3, .inr (8, [.ref h, .ref (ew 3), .ref (eg 3), .int (zd 4)])), (ew 3, .inl (V.2.2.1, 7, .inl (zw 4))), (eg 3, .inl (V.2.2.1, 7, .inl (zg 4))), (e 4, .inr (8, [.ref h, .ref (ew 4), .ref (eg 4), .int (zd 5)])), (ew 4, .inl (V.2.2.1, 7, .inl (zw 5))), (eg 4, .inl (V.2.2.1, 7, .inl (zg 5))), (e 5, .inr (8, [.ref h, .ref (ew 5), .ref (eg 5), .int (zd 6)])), (ew 5, .inl (V.2.2.1, 7, .inl (zw 6))), (eg 5, .inl (V.2.2.1, 7, .inl (zg 6))), (e 6, .inr (8, [.ref h, .ref (ew 6), .ref (eg 6), .int (zd 6)])), (ew 6, .inl (V.2.2.1, 7, .inl (zw 6))), (eg 6, .inl (V.2.2.1, 7, .inl (zg 6))), (e 7, .inr (8, [.ref h, .ref (ew 7), .ref (eg 7), .int (zd 7)])), (ew 7, .inl (V.2.2.1, 7, .inl (zw 7))), (eg 7, .inl (V.2.2.1, 7, .inl (zg 7)))] := hw_34.symm
  clear hw_34; subst hw_34x
  refine g_iinc X (v := 6) (L' := [some (.ref p), some (.int 6)]) dX7_dropOldest_50 rfl (by decide) (by decide) rfl rfl ?_
  refine g_goto X 2 dX7_dropOldest_53 (by decide) ?_
  refine g_iload_n X dX7_dropOldest_2 rfl ?_
  refine g_iconst X (1) dX7_dropOldest_3 (by decide) ?_
  refine g_iadd X dX7_dropOldest_4 ?_
  refine g_toe (x' := 7) (by decide) ?_
  refine g_aload_n X dX7_dropOldest_5 rfl ?_
  refine g_get X uwX7 0 rfl rfl 0 (by decide) kl_X7_21 rfl rfl gwX7 dX7_dropOldest_6 ?_
  refine g_alenq X 1 (8) rfl rfl dX7_dropOldest_9 ?_
  refine g_icmp_ge X 56 dX7_dropOldest_10 (by decide) (fun c10_37 => absurd c10_37 (by decide)) (fun c10_37 => ?_)
  refine g_aload_n X dX7_dropOldest_13 rfl ?_
  refine g_get X uwX7 0 rfl rfl 0 (by decide) kl_X7_21 rfl rfl gwX7 dX7_dropOldest_14 ?_
  refine g_iload_n X dX7_dropOldest_17 rfl ?_
  refine g_aald' X 1 (.ref (e 6)) rfl (i := 6) rfl (by decide) (by decide) rfl dX7_dropOldest_18 ?_
  refine g_ifnull X dX7_dropOldest_19 ?_
  refine g_aload_n X dX7_dropOldest_22 rfl ?_
  refine g_get X uwX7 0 rfl rfl 0 (by decide) kl_X7_21 rfl rfl gwX7 dX7_dropOldest_23 ?_
  refine g_iload_n X dX7_dropOldest_26 rfl ?_
  refine g_iconst X (1) dX7_dropOldest_27 (by decide) ?_
  refine g_iadd X dX7_dropOldest_28 ?_
  refine g_toe (x' := 7) (by decide) ?_
  refine g_aald' X 1 (.ref (e 7)) rfl (i := 7) rfl (by decide) (by decide) rfl dX7_dropOldest_29 ?_
  refine g_ifnull X dX7_dropOldest_30 ?_
  refine g_aload_n X dX7_dropOldest_33 rfl ?_
  refine g_get X uwX7 0 rfl rfl 0 (by decide) kl_X7_21 rfl rfl gwX7 dX7_dropOldest_34 ?_
  refine g_iload_n X dX7_dropOldest_37 rfl ?_
  refine g_aald' X 1 (.ref (e 6)) rfl (i := 6) rfl (by decide) (by decide) rfl dX7_dropOldest_38 ?_
  refine g_aload_n X dX7_dropOldest_39 rfl ?_
  refine g_get X uwX7 0 rfl rfl 0 (by decide) kl_X7_21 rfl rfl gwX7 dX7_dropOldest_40 ?_
  refine g_iload_n X dX7_dropOldest_43 rfl ?_
  refine g_iconst X (1) dX7_dropOldest_44 (by decide) ?_
  refine g_iadd X dX7_dropOldest_45 ?_
  refine g_toe (x' := 7) (by decide) ?_
  refine g_aald' X 1 (.ref (e 7)) rfl (i := 7) rfl (by decide) (by decide) rfl dX7_dropOldest_46 ?_
  refine g_callVv X (c_X8_takeFrom V (e 6) (ew 6) (eg 6) (zd 6) (zw 6) (zg 6) h (e 7) (ew 7) (eg 7) h (zd 7) (zw 7) (zg 7)) mo_X8_takeFrom kl_X7_31 [20, 21, 22, 23, 24, 25] [0, 0, 0, 0, 0, 0, 0, 0, 0, 0, 0, 0, 0, 0, 0, 0, 0, 0, 0, 0, 1, 2, 3, 4, 5, 6] rfl (by decide +kernel) rfl rfl (fun _ => Nat.le_of_ble_eq_true rfl) 20 8 rfl rfl (As := [.ref (e 7)]) (st := []) (cs' := (0, 0)) rfl rfl rfl rfl dX7_dropOldest_47 (fun u_38 hp_39 ws_41 hw_40 => ?_)
  have hw_40x : ws_41 = [(p, .inr (7, [.ref pl, .int held])), (pl, .inl (V.2.2.2, 8, .inr (.inr (.inr (.inr (shf e)))))), (e 0, .inr (8, [.ref h, .ref (ew 0), .ref (eg 0), .int (zd 1)])), (ew 0, .inl (V.2.2.1, 7, .inl (zw 1))), (eg 0, .inl (V.2.2.1, 7, .inl (zg 1))), (e 1, .inr (8, [.ref h, .ref (ew 1), .ref (eg 1), .int (zd 2)])), (ew 1, .inl (V.2.2.1, 7, .inl (zw 2))), (eg 1, .inl (V.2.2.1, 7, .inl (zg 2))), (e 2, .inr (8, [.ref h, .ref (ew 2), .ref (eg 2), .int (zd 3)])), (ew 2, .inl (V.2.2.1, 7, .inl (zw 3))), (eg 2, .inl (V.2.2.1, 7, .inl (zg 3))), (e 3, .inr (8, [.ref h, .ref (ew 3), .ref (eg 3), .int (zd 4)])), (ew 3, .inl (V.2.2.1, 7, .inl (zw 4))), (eg 3, .inl (V.2.2.1, 7, .inl (zg 4))), (e 4, .inr (8, [.ref h, .ref (ew 4), .ref (eg 4), .int (zd 5)])), (ew 4, .inl (V.2.2.1, 7, .inl (zw 5))), (eg 4, .inl (V.2.2.1, 7, .inl (zg 5))), (e 5, .inr (8, [.ref h, .ref (ew 5), .ref (eg 5), .int (zd 6)])), (ew 5, .inl (V.2.2.1, 7, .inl (zw 6))), (eg 5, .inl (V.2.2.1, 7, .inl (zg 6))), (e 6, .inr (8, [.ref h, .ref (ew 6), .ref (eg 6), .int (zd 7)])), (ew 6, .inl (V.2.2.1, 7, .inl (zw 7))), (eg 6, .inl (V.2.2.1, 7, .inl (zg 7))), (e 7, .inr (8, [.ref h, .ref (ew 7), .ref (eg 7), .int (zd 7)])), (ew 7, .inl (V.2.2.1, 7, .inl (zw 7))), (eg 7, .inl (V.2.2.1, 7, .inl (zg 7)))] := hw_40.symm
  clear hw_40; subst hw_40x
  refine g_iinc X (v := 7) (L' := [some (.ref p), some (.int 7)]) dX7_dropOldest_50 rfl (by decide) (by decide) rfl rfl ?_
  refine g_goto X 2 dX7_dropOldest_53 (by decide) ?_
  refine g_iload_n X dX7_dropOldest_2 rfl ?_
  refine g_iconst X (1) dX7_dropOldest_3 (by decide) ?_
  refine g_iadd X dX7_dropOldest_4 ?_
  refine g_toe (x' := 8) (by decide) ?_
  refine g_aload_n X dX7_dropOldest_5 rfl ?_
  refine g_get X uwX7 0 rfl rfl 0 (by decide) kl_X7_21 rfl rfl gwX7 dX7_dropOldest_6 ?_
  refine g_alenq X 1 (8) rfl rfl dX7_dropOldest_9 ?_
  refine g_icmp_ge X 56 dX7_dropOldest_10 (by decide) (fun c10_43 => ?_) (fun c10_43 => absurd (by decide) c10_43)
  refine g_aload_n X dX7_dropOldest_56 rfl ?_
  refine g_aload_n X dX7_dropOldest_57 rfl ?_
  refine g_get X uwX7 0 rfl rfl 0 (by decide) kl_X7_21 rfl rfl gwX7 dX7_dropOldest_58 ?_
  refine g_alenq X 1 (8) rfl rfl dX7_dropOldest_61 ?_
  refine g_iconst X (1) dX7_dropOldest_62 (by decide) ?_
  refine g_isub X dX7_dropOldest_63 ?_
  refine g_toe (x' := 7) (by decide) ?_
  refine g_put X uwX7 tyX7 tyX7_ok nmX7 0 rfl rfl 1 (by decide) kl_X7_7 rfl rfl rfl rfl (Nat.le_of_ble_eq_true rfl) gwX7 (ws' := [(p, .inr (7, [.ref pl, .int 7])), (pl, .inl (V.2.2.2, 8, .inr (.inr (.inr (.inr (shf e)))))), (e 0, .inr (8, [.ref h, .ref (ew 0), .ref (eg 0), .int (zd 1)])), (ew 0, .inl (V.2.2.1, 7, .inl (zw 1))), (eg 0, .inl (V.2.2.1, 7, .inl (zg 1))), (e 1, .inr (8, [.ref h, .ref (ew 1), .ref (eg 1), .int (zd 2)])), (ew 1, .inl (V.2.2.1, 7, .inl (zw 2))), (eg 1, .inl (V.2.2.1, 7, .inl (zg 2))), (e 2, .inr (8, [.ref h, .ref (ew 2), .ref (eg 2), .int (zd 3)])), (ew 2, .inl (V.2.2.1, 7, .inl (zw 3))), (eg 2, .inl (V.2.2.1, 7, .inl (zg 3))), (e 3, .inr (8, [.ref h, .ref (ew 3), .ref (eg 3), .int (zd 4)])), (ew 3, .inl (V.2.2.1, 7, .inl (zw 4))), (eg 3, .inl (V.2.2.1, 7, .inl (zg 4))), (e 4, .inr (8, [.ref h, .ref (ew 4), .ref (eg 4), .int (zd 5)])), (ew 4, .inl (V.2.2.1, 7, .inl (zw 5))), (eg 4, .inl (V.2.2.1, 7, .inl (zg 5))), (e 5, .inr (8, [.ref h, .ref (ew 5), .ref (eg 5), .int (zd 6)])), (ew 5, .inl (V.2.2.1, 7, .inl (zw 6))), (eg 5, .inl (V.2.2.1, 7, .inl (zg 6))), (e 6, .inr (8, [.ref h, .ref (ew 6), .ref (eg 6), .int (zd 7)])), (ew 6, .inl (V.2.2.1, 7, .inl (zw 7))), (eg 6, .inl (V.2.2.1, 7, .inl (zg 7))), (e 7, .inr (8, [.ref h, .ref (ew 7), .ref (eg 7), .int (zd 7)])), (ew 7, .inl (V.2.2.1, 7, .inl (zw 7))), (eg 7, .inl (V.2.2.1, 7, .inl (zg 7)))]) rfl dX7_dropOldest_64 ?_
  exact g_vret X E dX7_dropOldest_67 () trivial rfl

set_option maxHeartbeats 4000000 in
set_option maxRecDepth 100000 in
theorem c_X7_add8 (V : gV) (p : Nat) (pl : Nat) (e : Nat → Nat) (ew : Nat → Nat) (eg : Nat → Nat) (zw : Nat → Nat → Int32) (zg : Nat → Nat → Int32) (zd : Nat → Int32) (h : Nat) (q : Nat) (o : Nat) (ow_ : Nat) (og_ : Nat) (oh : Nat) (oday : Int32) (ow : Nat → Int32) (og : Nat → Int32) (hq : q ≤ 8) : Kv V yX7_add cX7_add 2 ({ frames := 3, cells := 0, slots := 0, locals := 65 }) [.ref p, .ref o] [(p, .inr (7, [.ref pl, .int (nI q)])), (pl, .inl (V.2.2.2, 8, .inr (.inr (.inr (.inr (shf e)))))), (e 0, .inr (8, [.ref h, .ref (ew 0), .ref (eg 0), .int (zd 0)])), (ew 0, .inl (V.2.2.1, 7, .inl (zw 0))), (eg 0, .inl (V.2.2.1, 7, .inl (zg 0))), (e 1, .inr (8, [.ref h, .ref (ew 1), .ref (eg 1), .int (zd 1)])), (ew 1, .inl (V.2.2.1, 7, .inl (zw 1))), (eg 1, .inl (V.2.2.1, 7, .inl (zg 1))), (e 2, .inr (8, [.ref h, .ref (ew 2), .ref (eg 2), .int (zd 2)])), (ew 2, .inl (V.2.2.1, 7, .inl (zw 2))), (eg 2, .inl (V.2.2.1, 7, .inl (zg 2))), (e 3, .inr (8, [.ref h, .ref (ew 3), .ref (eg 3), .int (zd 3)])), (ew 3, .inl (V.2.2.1, 7, .inl (zw 3))), (eg 3, .inl (V.2.2.1, 7, .inl (zg 3))), (e 4, .inr (8, [.ref h, .ref (ew 4), .ref (eg 4), .int (zd 4)])), (ew 4, .inl (V.2.2.1, 7, .inl (zw 4))), (eg 4, .inl (V.2.2.1, 7, .inl (zg 4))), (e 5, .inr (8, [.ref h, .ref (ew 5), .ref (eg 5), .int (zd 5)])), (ew 5, .inl (V.2.2.1, 7, .inl (zw 5))), (eg 5, .inl (V.2.2.1, 7, .inl (zg 5))), (e 6, .inr (8, [.ref h, .ref (ew 6), .ref (eg 6), .int (zd 6)])), (ew 6, .inl (V.2.2.1, 7, .inl (zw 6))), (eg 6, .inl (V.2.2.1, 7, .inl (zg 6))), (e 7, .inr (8, [.ref h, .ref (ew 7), .ref (eg 7), .int (zd 7)])), (ew 7, .inl (V.2.2.1, 7, .inl (zw 7))), (eg 7, .inl (V.2.2.1, 7, .inl (zg 7))), (o, .inr (8, [.ref oh, .ref ow_, .ref og_, .int oday])), (ow_, .inl (V.2.2.1, 7, .inl ow)), (og_, .inl (V.2.2.1, 7, .inl og))] (fun u : Unit => True) (fun u => [(p, .inr (7, [.ref pl, .int (nI (min 8 (q + 1)))])), (pl, .inl (V.2.2.2, 8, .inr (.inr (.inr (.inr (shf e)))))), (e 0, .inr (8, [.ref h, .ref (ew 0), .ref (eg 0), .int (pushF q oday zd 0)])), (ew 0, .inl (V.2.2.1, 7, .inl (pushF q ow zw 0))), (eg 0, .inl (V.2.2.1, 7, .inl (pushF q og zg 0))), (e 1, .inr (8, [.ref h, .ref (ew 1), .ref (eg 1), .int (pushF q oday zd 1)])), (ew 1, .inl (V.2.2.1, 7, .inl (pushF q ow zw 1))), (eg 1, .inl (V.2.2.1, 7, .inl (pushF q og zg 1))), (e 2, .inr (8, [.ref h, .ref (ew 2), .ref (eg 2), .int (pushF q oday zd 2)])), (ew 2, .inl (V.2.2.1, 7, .inl (pushF q ow zw 2))), (eg 2, .inl (V.2.2.1, 7, .inl (pushF q og zg 2))), (e 3, .inr (8, [.ref h, .ref (ew 3), .ref (eg 3), .int (pushF q oday zd 3)])), (ew 3, .inl (V.2.2.1, 7, .inl (pushF q ow zw 3))), (eg 3, .inl (V.2.2.1, 7, .inl (pushF q og zg 3))), (e 4, .inr (8, [.ref h, .ref (ew 4), .ref (eg 4), .int (pushF q oday zd 4)])), (ew 4, .inl (V.2.2.1, 7, .inl (pushF q ow zw 4))), (eg 4, .inl (V.2.2.1, 7, .inl (pushF q og zg 4))), (e 5, .inr (8, [.ref h, .ref (ew 5), .ref (eg 5), .int (pushF q oday zd 5)])), (ew 5, .inl (V.2.2.1, 7, .inl (pushF q ow zw 5))), (eg 5, .inl (V.2.2.1, 7, .inl (pushF q og zg 5))), (e 6, .inr (8, [.ref h, .ref (ew 6), .ref (eg 6), .int (pushF q oday zd 6)])), (ew 6, .inl (V.2.2.1, 7, .inl (pushF q ow zw 6))), (eg 6, .inl (V.2.2.1, 7, .inl (pushF q og zg 6))), (e 7, .inr (8, [.ref h, .ref (ew 7), .ref (eg 7), .int (pushF q oday zd 7)])), (ew 7, .inl (V.2.2.1, 7, .inl (pushF q ow zw 7))), (eg 7, .inl (V.2.2.1, 7, .inl (pushF q og zg 7))), (o, .inr (8, [.ref oh, .ref ow_, .ref og_, .int oday])), (ow_, .inl (V.2.2.1, 7, .inl ow)), (og_, .inl (V.2.2.1, 7, .inl og))]) := by
  refine Kv.of [some (.ref p), some (.ref o)] (by decide) (Nat.le_of_ble_eq_true rfl) rfl rfl ?_
  intro Z X E
  have X : gX V Z RX7 cX7_add 2 ({ frames := 3, cells := 0, slots := 0, locals := 65 }) := X
  obtain rfl | rfl | rfl | rfl | rfl | rfl | rfl | rfl | rfl : q = 0 ∨ q = 1 ∨ q = 2 ∨ q = 3 ∨ q = 4 ∨ q = 5 ∨ q = 6 ∨ q = 7 ∨ q = 8 := by omega
  · refine g_aload_n X dX7_add_0 rfl ?_
    refine g_get X uwX7 0 rfl rfl 1 (by decide) kl_X7_7 rfl rfl gwX7 dX7_add_1 ?_
    refine g_aload_n X dX7_add_4 rfl ?_
    refine g_get X uwX7 0 rfl rfl 0 (by decide) kl_X7_21 rfl rfl gwX7 dX7_add_5 ?_
    refine g_alenq X 1 (8) rfl rfl dX7_add_8 ?_
    refine g_icmp_lt X 16 dX7_add_9 (by decide) (fun c9_1 => ?_) (fun c9_1 => absurd (by decide) c9_1)
    refine g_aload_n X dX7_add_16 rfl ?_
    refine g_get X uwX7 0 rfl rfl 1 (by decide) kl_X7_7 rfl rfl gwX7 dX7_add_17 ?_
    refine g_if_lt X 70 dX7_add_20 (by decide) (fun c20_2 => absurd c20_2 (by decide)) (fun c20_2 => ?_)
    refine g_aload_n X dX7_add_23 rfl ?_
    refine g_get X uwX7 0 rfl rfl 1 (by decide) kl_X7_7 rfl rfl gwX7 dX7_add_24 ?_
    refine g_aload_n X dX7_add_27 rfl ?_
    refine g_get X uwX7 0 rfl rfl 0 (by decide) kl_X7_21 rfl rfl gwX7 dX7_add_28 ?_
    refine g_alenq X 1 (8) rfl rfl dX7_add_31 ?_
    refine g_icmp_ge X 70 dX7_add_32 (by decide) (fun c32_3 => absurd c32_3 (by decide)) (fun c32_3 => ?_)
    refine g_aload_n X dX7_add_35 rfl ?_
    refine g_get X uwX7 0 rfl rfl 0 (by decide) kl_X7_21 rfl rfl gwX7 dX7_add_36 ?_
    refine g_aload_n X dX7_add_39 rfl ?_
    refine g_get X uwX7 0 rfl rfl 1 (by decide) kl_X7_7 rfl rfl gwX7 dX7_add_40 ?_
    refine g_aald' X 1 (.ref (e 0)) rfl (i := 0) rfl (by decide) (by decide) rfl dX7_add_43 ?_
    refine g_ifnull X dX7_add_44 ?_
    refine g_aload_n X dX7_add_47 rfl ?_
    refine g_get X uwX7 0 rfl rfl 0 (by decide) kl_X7_21 rfl rfl gwX7 dX7_add_48 ?_
    refine g_aload_n X dX7_add_51 rfl ?_
    refine g_get X uwX7 0 rfl rfl 1 (by decide) kl_X7_7 rfl rfl gwX7 dX7_add_52 ?_
    refine g_aald' X 1 (.ref (e 0)) rfl (i := 0) rfl (by decide) (by decide) rfl dX7_add_55 ?_
    refine g_aload_n X dX7_add_56 rfl ?_
    refine g_callVv X (c_X8_takeFrom V (e 0) (ew 0) (eg 0) (zd 0) (zw 0) (zg 0) h o ow_ og_ oh oday ow og) mo_X8_takeFrom kl_X7_31 [2, 3, 4, 26, 27, 28] [0, 0, 1, 2, 3, 0, 0, 0, 0, 0, 0, 0, 0, 0, 0, 0, 0, 0, 0, 0, 0, 0, 0, 0, 0, 0, 4, 5, 6] rfl (by decide +kernel) rfl rfl (fun _ => Nat.le_of_ble_eq_true rfl) 2 8 rfl rfl (As := [.ref o]) (st := []) (cs' := (0, 0)) rfl rfl rfl rfl dX7_add_57 (fun u_4 hp_5 ws_7 hw_6 => ?_)
    have hw_6x : ws_7 = [(p, .inr (7, [.ref pl, .int (nI 0)])), (pl, .inl (V.2.2.2, 8, .inr (.inr (.inr (.inr (shf e)))))), (e 0, .inr (8, [.ref h, .ref (ew 0), .ref (eg 0), .int oday])), (ew 0, .inl (V.2.2.1, 7, .inl ow)), (eg 0, .inl (V.2.2.1, 7, .inl og)), (e 1, .inr (8, [.ref h, .ref (ew 1), .ref (eg 1), .int (zd 1)])), (ew 1, .inl (V.2.2.1, 7, .inl (zw 1))), (eg 1, .inl (V.2.2.1, 7, .inl (zg 1))), (e 2, .inr (8, [.ref h, .ref (ew 2), .ref (eg 2), .int (zd 2)])), (ew 2, .inl (V.2.2.1, 7, .inl (zw 2))), (eg 2, .inl (V.2.2.1, 7, .inl (zg 2))), (e 3, .inr (8, [.ref h, .ref (ew 3), .ref (eg 3), .int (zd 3)])), (ew 3, .inl (V.2.2.1, 7, .inl (zw 3))), (eg 3, .inl (V.2.2.1, 7, .inl (zg 3))), (e 4, .inr (8, [.ref h, .ref (ew 4), .ref (eg 4), .int (zd 4)])), (ew 4, .inl (V.2.2.1, 7, .inl (zw 4))), (eg 4, .inl (V.2.2.1, 7, .inl (zg 4))), (e 5, .inr (8, [.ref h, .ref (ew 5), .ref (eg 5), .int (zd 5)])), (ew 5, .inl (V.2.2.1, 7, .inl (zw 5))), (eg 5, .inl (V.2.2.1, 7, .inl (zg 5))), (e 6, .inr (8, [.ref h, .ref (ew 6), .ref (eg 6), .int (zd 6)])), (ew 6, .inl (V.2.2.1, 7, .inl (zw 6))), (eg 6, .inl (V.2.2.1, 7, .inl (zg 6))), (e 7, .inr (8, [.ref h, .ref (ew 7), .ref (eg 7), .int (zd 7)])), (ew 7, .inl (V.2.2.1, 7, .inl (zw 7))), (eg 7, .inl (V.2.2.1, 7, .inl (zg 7))), (o, .inr (8, [.ref oh, .ref ow_, .ref og_, .int oday])), (ow_, .inl (V.2.2.1, 7, .inl ow)), (og_, .inl (V.2.2.1, 7, .inl og))] := hw_6.symm
    clear hw_6; subst hw_6x
    refine g_aload_n X dX7_add_60 rfl ?_
    refine g_dup X dX7_add_61 rfl ?_
    refine g_get X uwX7 0 rfl rfl 1 (by decide) kl_X7_7 rfl rfl gwX7 dX7_add_62 ?_
    refine g_iconst X (1) dX7_add_65 (by decide) ?_
    refine g_iadd X dX7_add_66 ?_
    refine g_toe (x' := 1) (by decide) ?_
    refine g_put X uwX7 tyX7 tyX7_ok nmX7 0 rfl rfl 1 (by decide) kl_X7_7 rfl rfl rfl rfl (Nat.le_of_ble_eq_true rfl) gwX7 (ws' := [(p, .inr (7, [.ref pl, .int 1])), (pl, .inl (V.2.2.2, 8, .inr (.inr (.inr (.inr (shf e)))))), (e 0, .inr (8, [.ref h, .ref (ew 0), .ref (eg 0), .int oday])), (ew 0, .inl (V.2.2.1, 7, .inl ow)), (eg 0, .inl (V.2.2.1, 7, .inl og)), (e 1, .inr (8, [.ref h, .ref (ew 1), .ref (eg 1), .int (zd 1)])), (ew 1, .inl (V.2.2.1, 7, .inl (zw 1))), (eg 1, .inl (V.2.2.1, 7, .inl (zg 1))), (e 2, .inr (8, [.ref h, .ref (ew 2), .ref (eg 2), .int (zd 2)])), (ew 2, .inl (V.2.2.1, 7, .inl (zw 2))), (eg 2, .inl (V.2.2.1, 7, .inl (zg 2))), (e 3, .inr (8, [.ref h, .ref (ew 3), .ref (eg 3), .int (zd 3)])), (ew 3, .inl (V.2.2.1, 7, .inl (zw 3))), (eg 3, .inl (V.2.2.1, 7, .inl (zg 3))), (e 4, .inr (8, [.ref h, .ref (ew 4), .ref (eg 4), .int (zd 4)])), (ew 4, .inl (V.2.2.1, 7, .inl (zw 4))), (eg 4, .inl (V.2.2.1, 7, .inl (zg 4))), (e 5, .inr (8, [.ref h, .ref (ew 5), .ref (eg 5), .int (zd 5)])), (ew 5, .inl (V.2.2.1, 7, .inl (zw 5))), (eg 5, .inl (V.2.2.1, 7, .inl (zg 5))), (e 6, .inr (8, [.ref h, .ref (ew 6), .ref (eg 6), .int (zd 6)])), (ew 6, .inl (V.2.2.1, 7, .inl (zw 6))), (eg 6, .inl (V.2.2.1, 7, .inl (zg 6))), (e 7, .inr (8, [.ref h, .ref (ew 7), .ref (eg 7), .int (zd 7)])), (ew 7, .inl (V.2.2.1, 7, .inl (zw 7))), (eg 7, .inl (V.2.2.1, 7, .inl (zg 7))), (o, .inr (8, [.ref oh, .ref ow_, .ref og_, .int oday])), (ow_, .inl (V.2.2.1, 7, .inl ow)), (og_, .inl (V.2.2.1, 7, .inl og))]) rfl dX7_add_67 ?_
    exact g_vret X E dX7_add_70 () trivial rfl
  · refine g_aload_n X dX7_add_0 rfl ?_
    refine g_get X uwX7 0 rfl rfl 1 (by decide) kl_X7_7 rfl rfl gwX7 dX7_add_1 ?_
    refine g_aload_n X dX7_add_4 rfl ?_
    refine g_get X uwX7 0 rfl rfl 0 (by decide) kl_X7_21 rfl rfl gwX7 dX7_add_5 ?_
    refine g_alenq X 1 (8) rfl rfl dX7_add_8 ?_
    refine g_icmp_lt X 16 dX7_add_9 (by decide) (fun c9_9 => ?_) (fun c9_9 => absurd (by decide) c9_9)
    refine g_aload_n X dX7_add_16 rfl ?_
    refine g_get X uwX7 0 rfl rfl 1 (by decide) kl_X7_7 rfl rfl gwX7 dX7_add_17 ?_
    refine g_if_lt X 70 dX7_add_20 (by decide) (fun c20_10 => absurd c20_10 (by decide)) (fun c20_10 => ?_)
    refine g_aload_n X dX7_add_23 rfl ?_
    refine g_get X uwX7 0 rfl rfl 1 (by decide) kl_X7_7 rfl rfl gwX7 dX7_add_24 ?_
    refine g_aload_n X dX7_add_27 rfl ?_
    refine g_get X uwX7 0 rfl rfl 0 (by decide) kl_X7_21 rfl rfl gwX7 dX7_add_28 ?_
    refine g_alenq X 1 (8) rfl rfl dX7_add_31 ?_
    refine g_icmp_ge X 70 dX7_add_32 (by decide) (fun c32_11 => absurd c32_11 (by decide)) (fun c32_11 => ?_)
    refine g_aload_n X dX7_add_35 rfl ?_
    refine g_get X uwX7 0 rfl rfl 0 (by decide) kl_X7_21 rfl rfl gwX7 dX7_add_36 ?_
    refine g_aload_n X dX7_add_39 rfl ?_
    refine g_get X uwX7 0 rfl rfl 1 (by decide) kl_X7_7 rfl rfl gwX7 dX7_add_40 ?_
    refine g_aald' X 1 (.ref (e 1)) rfl (i := 1) rfl (by decide) (by decide) rfl dX7_add_43 ?_
    refine g_ifnull X dX7_add_44 ?_
    refine g_aload_n X dX7_add_47 rfl ?_
    refine g_get X uwX7 0 rfl rfl 0 (by decide) kl_X7_21 rfl rfl gwX7 dX7_add_48 ?_
    refine g_aload_n X dX7_add_51 rfl ?_
    refine g_get X uwX7 0 rfl rfl 1 (by decide) kl_X7_7 rfl rfl gwX7 dX7_add_52 ?_
    refine g_aald' X 1 (.ref (e 1)) rfl (i := 1) rfl (by decide) (by decide) rfl dX7_add_55 ?_
    refine g_aload_n X dX7_add_56 rfl ?_
    refine g_callVv X (c_X8_takeFrom V (e 1) (ew 1) (eg 1) (zd 1) (zw 1) (zg 1) h o ow_ og_ oh oday ow og) mo_X8_takeFrom kl_X7_31 [5, 6, 7, 26, 27, 28] [0, 0, 0, 0, 0, 1, 2, 3, 0, 0, 0, 0, 0, 0, 0, 0, 0, 0, 0, 0, 0, 0, 0, 0, 0, 0, 4, 5, 6] rfl (by decide +kernel) rfl rfl (fun _ => Nat.le_of_ble_eq_true rfl) 5 8 rfl rfl (As := [.ref o]) (st := []) (cs' := (0, 0)) rfl rfl rfl rfl dX7_add_57 (fun u_12 hp_13 ws_15 hw_14 => ?_)
    have hw_14x : ws_15 = [(p, .inr (7, [.ref pl, .int (nI 1)])), (pl, .inl (V.2.2.2, 8, .inr (.inr (.inr (.inr (shf e)))))), (e 0, .inr (8, [.ref h, .ref (ew 0), .ref (eg 0), .int (zd 0)])), (ew 0, .inl (V.2.2.1, 7, .inl (zw 0))), (eg 0, .inl (V.2.2.1, 7, .inl (zg 0))), (e 1, .inr (8, [.ref h, .ref (ew 1), .ref (eg 1), .int oday])), (ew 1, .inl (V.2.2.1, 7, .inl ow)), (eg 1, .inl (V.2.2.1, 7, .inl og)), (e 2, .inr (8, [.ref h, .ref (ew 2), .ref (eg 2), .int (zd 2)])), (ew 2, .inl (V.2.2.1, 7, .inl (zw 2))), (eg 2, .inl (V.2.2.1, 7, .inl (zg 2))), (e 3, .inr (8, [.ref h, .ref (ew 3), .ref (eg 3), .int (zd 3)])), (ew 3, .inl (V.2.2.1, 7, .inl (zw 3))), (eg 3, .inl (V.2.2.1, 7, .inl (zg 3))), (e 4, .inr (8, [.ref h, .ref (ew 4), .ref (eg 4), .int (zd 4)])), (ew 4, .inl (V.2.2.1, 7, .inl (zw 4))), (eg 4, .inl (V.2.2.1, 7, .inl (zg 4))), (e 5, .inr (8, [.ref h, .ref (ew 5), .ref (eg 5), .int (zd 5)])), (ew 5, .inl (V.2.2.1, 7, .inl (zw 5))), (eg 5, .inl (V.2.2.1, 7, .inl (zg 5))), (e 6, .inr (8, [.ref h, .ref (ew 6), .ref (eg 6), .int (zd 6)])), (ew 6, .inl (V.2.2.1, 7, .inl (zw 6))), (eg 6, .inl (V.2.2.1, 7, .inl (zg 6))), (e 7, .inr (8, [.ref h, .ref (ew 7), .ref (eg 7), .int (zd 7)])), (ew 7, .inl (V.2.2.1, 7, .inl (zw 7))), (eg 7, .inl (V.2.2.1, 7, .inl (zg 7))), (o, .inr (8, [.ref oh, .ref ow_, .ref og_, .int oday])), (ow_, .inl (V.2.2.1, 7, .inl ow)), (og_, .inl (V.2.2.1, 7, .inl og))] := hw_14.symm
    clear hw_14; subst hw_14x
    refine g_aload_n X dX7_add_60 rfl ?_
    refine g_dup X dX7_add_61 rfl ?_
    refine g_get X uwX7 0 rfl rfl 1 (by decide) kl_X7_7 rfl rfl gwX7 dX7_add_62 ?_
    refine g_iconst X (1) dX7_add_65 (by decide) ?_
    refine g_iadd X dX7_add_66 ?_
    refine g_toe (x' := 2) (by decide) ?_
    refine g_put X uwX7 tyX7 tyX7_ok nmX7 0 rfl rfl 1 (by decide) kl_X7_7 rfl rfl rfl rfl (Nat.le_of_ble_eq_true rfl) gwX7 (ws' := [(p, .inr (7, [.ref pl, .int 2])), (pl, .inl (V.2.2.2, 8, .inr (.inr (.inr (.inr (shf e)))))), (e 0, .inr (8, [.ref h, .ref (ew 0), .ref (eg 0), .int (zd 0)])), (ew 0, .inl (V.2.2.1, 7, .inl (zw 0))), (eg 0, .inl (V.2.2.1, 7, .inl (zg 0))), (e 1, .inr (8, [.ref h, .ref (ew 1), .ref (eg 1), .int oday])), (ew 1, .inl (V.2.2.1, 7, .inl ow)), (eg 1, .inl (V.2.2.1, 7, .inl og)), (e 2, .inr (8, [.ref h, .ref (ew 2), .ref (eg 2), .int (zd 2)])), (ew 2, .inl (V.2.2.1, 7, .inl (zw 2))), (eg 2, .inl (V.2.2.1, 7, .inl (zg 2))), (e 3, .inr (8, [.ref h, .ref (ew 3), .ref (eg 3), .int (zd 3)])), (ew 3, .inl (V.2.2.1, 7, .inl (zw 3))), (eg 3, .inl (V.2.2.1, 7, .inl (zg 3))), (e 4, .inr (8, [.ref h, .ref (ew 4), .ref (eg 4), .int (zd 4)])), (ew 4, .inl (V.2.2.1, 7, .inl (zw 4))), (eg 4, .inl (V.2.2.1, 7, .inl (zg 4))), (e 5, .inr (8, [.ref h, .ref (ew 5), .ref (eg 5), .int (zd 5)])), (ew 5, .inl (V.2.2.1, 7, .inl (zw 5))), (eg 5, .inl (V.2.2.1, 7, .inl (zg 5))), (e 6, .inr (8, [.ref h, .ref (ew 6), .ref (eg 6), .int (zd 6)])), (ew 6, .inl (V.2.2.1, 7, .inl (zw 6))), (eg 6, .inl (V.2.2.1, 7, .inl (zg 6))), (e 7, .inr (8, [.ref h, .ref (ew 7), .ref (eg 7), .int (zd 7)])), (ew 7, .inl (V.2.2.1, 7, .inl (zw 7))), (eg 7, .inl (V.2.2.1, 7, .inl (zg 7))), (o, .inr (8, [.ref oh, .ref ow_, .ref og_, .int oday])), (ow_, .inl (V.2.2.1, 7, .inl ow)), (og_, .inl (V.2.2.1, 7, .inl og))]) rfl dX7_add_67 ?_
    exact g_vret X E dX7_add_70 () trivial rfl
  · refine g_aload_n X dX7_add_0 rfl ?_
    refine g_get X uwX7 0 rfl rfl 1 (by decide) kl_X7_7 rfl rfl gwX7 dX7_add_1 ?_
    refine g_aload_n X dX7_add_4 rfl ?_
    refine g_get X uwX7 0 rfl rfl 0 (by decide) kl_X7_21 rfl rfl gwX7 dX7_add_5 ?_
    refine g_alenq X 1 (8) rfl rfl dX7_add_8 ?_
    refine g_icmp_lt X 16 dX7_add_9 (by decide) (fun c9_17 => ?_) (fun c9_17 => absurd (by decide) c9_17)
    refine g_aload_n X dX7_add_16 rfl ?_
    refine g_get X uwX7 0 rfl rfl 1 (by decide) kl_X7_7 rfl rfl gwX7 dX7_add_17 ?_
    refine g_if_lt X 70 dX7_add_20 (by decide) (fun c20_18 => absurd c20_18 (by decide)) (fun c20_18 => ?_)
    refine g_aload_n X dX7_add_23 rfl ?_
    refine g_get X uwX7 0 rfl rfl 1 (by decide) kl_X7_7 rfl rfl gwX7 dX7_add_24 ?_
    refine g_aload_n X dX7_add_27 rfl ?_
    refine g_get X uwX7 0 rfl rfl 0 (by decide) kl_X7_21 rfl rfl gwX7 dX7_add_28 ?_
    refine g_alenq X 1 (8) rfl rfl dX7_add_31 ?_
    refine g_icmp_ge X 70 dX7_add_32 (by decide) (fun c32_19 => absurd c32_19 (by decide)) (fun c32_19 => ?_)
    refine g_aload_n X dX7_add_35 rfl ?_
    refine g_get X uwX7 0 rfl rfl 0 (by decide) kl_X7_21 rfl rfl gwX7 dX7_add_36 ?_
    refine g_aload_n X dX7_add_39 rfl ?_
    refine g_get X uwX7 0 rfl rfl 1 (by decide) kl_X7_7 rfl rfl gwX7 dX7_add_40 ?_
    refine g_aald' X 1 (.ref (e 2)) rfl (i := 2) rfl (by decide) (by decide) rfl dX7_add_43 ?_
    refine g_ifnull X dX7_add_44 ?_
    refine g_aload_n X dX7_add_47 rfl ?_
    refine g_get X uwX7 0 rfl rfl 0 (by decide) kl_X7_21 rfl rfl gwX7 dX7_add_48 ?_
    refine g_aload_n X dX7_add_51 rfl ?_
    refine g_get X uwX7 0 rfl rfl 1 (by decide) kl_X7_7 rfl rfl gwX7 dX7_add_52 ?_
    refine g_aald' X 1 (.ref (e 2)) rfl (i := 2) rfl (by decide) (by decide) rfl dX7_add_55 ?_
    refine g_aload_n X dX7_add_56 rfl ?_
    refine g_callVv X (c_X8_takeFrom V (e 2) (ew 2) (eg 2) (zd 2) (zw 2) (zg 2) h o ow_ og_ oh oday ow og) mo_X8_takeFrom kl_X7_31 [8, 9, 10, 26, 27, 28] [0, 0, 0, 0, 0, 0, 0, 0, 1, 2, 3, 0, 0, 0, 0, 0, 0, 0, 0, 0, 0, 0, 0, 0, 0, 0, 4, 5, 6] rfl (by decide +kernel) rfl rfl (fun _ => Nat.le_of_ble_eq_true rfl) 8 8 rfl rfl (As := [.ref o]) (st := []) (cs' := (0, 0)) rfl rfl rfl rfl dX7_add_57 (fun u_20 hp_21 ws_23 hw_22 => ?_)
    have hw_22x : ws_23 = [(p, .inr (7, [.ref pl, .int (nI 2)])), (pl, .inl (V.2.2.2, 8, .inr (.inr (.inr (.inr (shf e)))))), (e 0, .inr (8, [.ref h, .ref (ew 0), .ref (eg 0), .int (zd 0)])), (ew 0, .inl (V.2.2.1, 7, .inl (zw 0))), (eg 0, .inl (V.2.2.1, 7, .inl (zg 0))), (e 1, .inr (8, [.ref h, .ref (ew 1), .ref (eg 1), .int (zd 1)])), (ew 1, .inl (V.2.2.1, 7, .inl (zw 1))), (eg 1, .inl (V.2.2.1, 7, .inl (zg 1))), (e 2, .inr (8, [.ref h, .ref (ew 2), .ref (eg 2), .int oday])), (ew 2, .inl (V.2.2.1, 7, .inl ow)), (eg 2, .inl (V.2.2.1, 7, .inl og)), (e 3, .inr (8, [.ref h, .ref (ew 3), .ref (eg 3), .int (zd 3)])), (ew 3, .inl (V.2.2.1, 7, .inl (zw 3))), (eg 3, .inl (V.2.2.1, 7, .inl (zg 3))), (e 4, .inr (8, [.ref h, .ref (ew 4), .ref (eg 4), .int (zd 4)])), (ew 4, .inl (V.2.2.1, 7, .inl (zw 4))), (eg 4, .inl (V.2.2.1, 7, .inl (zg 4))), (e 5, .inr (8, [.ref h, .ref (ew 5), .ref (eg 5), .int (zd 5)])), (ew 5, .inl (V.2.2.1, 7, .inl (zw 5))), (eg 5, .inl (V.2.2.1, 7, .inl (zg 5))), (e 6, .inr (8, [.ref h, .ref (ew 6), .ref (eg 6), .int (zd 6)])), (ew 6, .inl (V.2.2.1, 7, .inl (zw 6))), (eg 6, .inl (V.2.2.1, 7, .inl (zg 6))), (e 7, .inr (8, [.ref h, .ref (ew 7), .ref (eg 7), .int (zd 7)])), (ew 7, .inl (V.2.2.1, 7, .inl (zw 7))), (eg 7, .inl (V.2.2.1, 7, .inl (zg 7))), (o, .inr (8, [.ref oh, .ref ow_, .ref og_, .int oday])), (ow_, .inl (V.2.2.1, 7, .inl ow)), (og_, .inl (V.2.2.1, 7, .inl og))] := hw_22.symm
    clear hw_22; subst hw_22x
    refine g_aload_n X dX7_add_60 rfl ?_
    refine g_dup X dX7_add_61 rfl ?_
    refine g_get X uwX7 0 rfl rfl 1 (by decide) kl_X7_7 rfl rfl gwX7 dX7_add_62 ?_
    refine g_iconst X (1) dX7_add_65 (by decide) ?_
    refine g_iadd X dX7_add_66 ?_
    refine g_toe (x' := 3) (by decide) ?_
    refine g_put X uwX7 tyX7 tyX7_ok nmX7 0 rfl rfl 1 (by decide) kl_X7_7 rfl rfl rfl rfl (Nat.le_of_ble_eq_true rfl) gwX7 (ws' := [(p, .inr (7, [.ref pl, .int 3])), (pl, .inl (V.2.2.2, 8, .inr (.inr (.inr (.inr (shf e)))))), (e 0, .inr (8, [.ref h, .ref (ew 0), .ref (eg 0), .int (zd 0)])), (ew 0, .inl (V.2.2.1, 7, .inl (zw 0))), (eg 0, .inl (V.2.2.1, 7, .inl (zg 0))), (e 1, .inr (8, [.ref h, .ref (ew 1), .ref (eg 1), .int (zd 1)])), (ew 1, .inl (V.2.2.1, 7, .inl (zw 1))), (eg 1, .inl (V.2.2.1, 7, .inl (zg 1))), (e 2, .inr (8, [.ref h, .ref (ew 2), .ref (eg 2), .int oday])), (ew 2, .inl (V.2.2.1, 7, .inl ow)), (eg 2, .inl (V.2.2.1, 7, .inl og)), (e 3, .inr (8, [.ref h, .ref (ew 3), .ref (eg 3), .int (zd 3)])), (ew 3, .inl (V.2.2.1, 7, .inl (zw 3))), (eg 3, .inl (V.2.2.1, 7, .inl (zg 3))), (e 4, .inr (8, [.ref h, .ref (ew 4), .ref (eg 4), .int (zd 4)])), (ew 4, .inl (V.2.2.1, 7, .inl (zw 4))), (eg 4, .inl (V.2.2.1, 7, .inl (zg 4))), (e 5, .inr (8, [.ref h, .ref (ew 5), .ref (eg 5), .int (zd 5)])), (ew 5, .inl (V.2.2.1, 7, .inl (zw 5))), (eg 5, .inl (V.2.2.1, 7, .inl (zg 5))), (e 6, .inr (8, [.ref h, .ref (ew 6), .ref (eg 6), .int (zd 6)])), (ew 6, .inl (V.2.2.1, 7, .inl (zw 6))), (eg 6, .inl (V.2.2.1, 7, .inl (zg 6))), (e 7, .inr (8, [.ref h, .ref (ew 7), .ref (eg 7), .int (zd 7)])), (ew 7, .inl (V.2.2.1, 7, .inl (zw 7))), (eg 7, .inl (V.2.2.1, 7, .inl (zg 7))), (o, .inr (8, [.ref oh, .ref ow_, .ref og_, .int oday])), (ow_, .inl (V.2.2.1, 7, .inl ow)), (og_, .inl (V.2.2.1, 7, .inl og))]) rfl dX7_add_67 ?_
    exact g_vret X E dX7_add_70 () trivial rfl
  · refine g_aload_n X dX7_add_0 rfl ?_
    refine g_get X uwX7 0 rfl rfl 1 (by decide) kl_X7_7 rfl rfl gwX7 dX7_add_1 ?_
    refine g_aload_n X dX7_add_4 rfl ?_
    refine g_get X uwX7 0 rfl rfl 0 (by decide) kl_X7_21 rfl rfl gwX7 dX7_add_5 ?_
    refine g_alenq X 1 (8) rfl rfl dX7_add_8 ?_
    refine g_icmp_lt X 16 dX7_add_9 (by decide) (fun c9_25 => ?_) (fun c9_25 => absurd (by decide) c9_25)
    refine g_aload_n X dX7_add_16 rfl ?_
    refine g_get X uwX7 0 rfl rfl 1 (by decide) kl_X7_7 rfl rfl gwX7 dX7_add_17 ?_
    refine g_if_lt X 70 dX7_add_20 (by decide) (fun c20_26 => absurd c20_26 (by decide)) (fun c20_26 => ?_)
    refine g_aload_n X dX7_add_23 rfl ?_
    refine g_get X uwX7 0 rfl rfl 1 (by decide) kl_X7_7 rfl rfl gwX7 dX7_add_24 ?_
    refine g_aload_n X dX7_add_27 rfl ?_
    refine g_get X uwX7 0 rfl rfl 0 (by decide) kl_X7_21 rfl rfl gwX7 dX7_add_28 ?_
    refine g_alenq X 1 (8) rfl rfl dX7_add_31 ?_
    refine g_icmp_ge X 70 dX7_add_32 (by decide) (fun c32_27 => absurd c32_27 (by decide)) (fun c32_27 => ?_)
    refine g_aload_n X dX7_add_35 rfl ?_
    refine g_get X uwX7 0 rfl rfl 0 (by decide) kl_X7_21 rfl rfl gwX7 dX7_add_36 ?_
    refine g_aload_n X dX7_add_39 rfl ?_
    refine g_get X uwX7 0 rfl rfl 1 (by decide) kl_X7_7 rfl rfl gwX7 dX7_add_40 ?_
    refine g_aald' X 1 (.ref (e 3)) rfl (i := 3) rfl (by decide) (by decide) rfl dX7_add_43 ?_
    refine g_ifnull X dX7_add_44 ?_
    refine g_aload_n X dX7_add_47 rfl ?_
    refine g_get X uwX7 0 rfl rfl 0 (by decide) kl_X7_21 rfl rfl gwX7 dX7_add_48 ?_
    refine g_aload_n X dX7_add_51 rfl ?_
    refine g_get X uwX7 0 rfl rfl 1 (by decide) kl_X7_7 rfl rfl gwX7 dX7_add_52 ?_
    refine g_aald' X 1 (.ref (e 3)) rfl (i := 3) rfl (by decide) (by decide) rfl dX7_add_55 ?_
    refine g_aload_n X dX7_add_56 rfl ?_
    refine g_callVv X (c_X8_takeFrom V (e 3) (ew 3) (eg 3) (zd 3) (zw 3) (zg 3) h o ow_ og_ oh oday ow og) mo_X8_takeFrom kl_X7_31 [11, 12, 13, 26, 27, 28] [0, 0, 0, 0, 0, 0, 0, 0, 0, 0, 0, 1, 2, 3, 0, 0, 0, 0, 0, 0, 0, 0, 0, 0, 0, 0, 4, 5, 6] rfl (by decide +kernel) rfl rfl (fun _ => Nat.le_of_ble_eq_true rfl) 11 8 rfl rfl (As := [.ref o]) (st := []) (cs' := (0, 0)) rfl rfl rfl rfl dX7_add_57 (fun u_28 hp_29 ws_31 hw_30 => ?_)
    have hw_30x : ws_31 = [(p, .inr (7, [.ref pl, .int (nI 3)])), (pl, .inl (V.2.2.2, 8, .inr (.inr (.inr (.inr (shf e)))))), (e 0, .inr (8, [.ref h, .ref (ew 0), .ref (eg 0), .int (zd 0)])), (ew 0, .inl (V.2.2.1, 7, .inl (zw 0))), (eg 0, .inl (V.2.2.1, 7, .inl (zg 0))), (e 1, .inr (8, [.ref h, .ref (ew 1), .ref (eg 1), .int (zd 1)])), (ew 1, .inl (V.2.2.1, 7, .inl (zw 1))), (eg 1, .inl (V.2.2.1, 7, .inl (zg 1))), (e 2, .inr (8, [.ref h, .ref (ew 2), .ref (eg 2), .int (zd 2)])), (ew 2, .inl (V.2.2.1, 7, .inl (zw 2))), (eg 2, .inl (V.2.2.1, 7, .inl (zg 2))), (e 3, .inr (8, [.ref h, .ref (ew 3), .ref (eg 3), .int oday])), (ew 3, .inl (V.2.2.1, 7, .inl ow)), (eg 3, .inl (V.2.2.1, 7, .inl og)), (e 4, .inr (8, [.ref h, .ref (ew 4), .ref (eg 4), .int (zd 4)])), (ew 4, .inl (V.2.2.1, 7, .inl (zw 4))), (eg 4, .inl (V.2.2.1, 7, .inl (zg 4))), (e 5, .inr (8, [.ref h, .ref (ew 5), .ref (eg 5), .int (zd 5)])), (ew 5, .inl (V.2.2.1, 7, .inl (zw 5))), (eg 5, .inl (V.2.2.1, 7, .inl (zg 5))), (e 6, .inr (8, [.ref h, .ref (ew 6), .ref (eg 6), .int (zd 6)])), (ew 6, .inl (V.2.2.1, 7, .inl (zw 6))), (eg 6, .inl (V.2.2.1, 7, .inl (zg 6))), (e 7, .inr (8, [.ref h, .ref (ew 7), .ref (eg 7), .int (zd 7)])), (ew 7, .inl (V.2.2.1, 7, .inl (zw 7))), (eg 7, .inl (V.2.2.1, 7, .inl (zg 7))), (o, .inr (8, [.ref oh, .ref ow_, .ref og_, .int oday])), (ow_, .inl (V.2.2.1, 7, .inl ow)), (og_, .inl (V.2.2.1, 7, .inl og))] := hw_30.symm
    clear hw_30; subst hw_30x
    refine g_aload_n X dX7_add_60 rfl ?_
    refine g_dup X dX7_add_61 rfl ?_
    refine g_get X uwX7 0 rfl rfl 1 (by decide) kl_X7_7 rfl rfl gwX7 dX7_add_62 ?_
    refine g_iconst X (1) dX7_add_65 (by decide) ?_
    refine g_iadd X dX7_add_66 ?_
    refine g_toe (x' := 4) (by decide) ?_
    refine g_put X uwX7 tyX7 tyX7_ok nmX7 0 rfl rfl 1 (by decide) kl_X7_7 rfl rfl rfl rfl (Nat.le_of_ble_eq_true rfl) gwX7 (ws' := [(p, .inr (7, [.ref pl, .int 4])), (pl, .inl (V.2.2.2, 8, .inr (.inr (.inr (.inr (shf e)))))), (e 0, .inr (8, [.ref h, .ref (ew 0), .ref (eg 0), .int (zd 0)])), (ew 0, .inl (V.2.2.1, 7, .inl (zw 0))), (eg 0, .inl (V.2.2.1, 7, .inl (zg 0))), (e 1, .inr (8, [.ref h, .ref (ew 1), .ref (eg 1), .int (zd 1)])), (ew 1, .inl (V.2.2.1, 7, .inl (zw 1))), (eg 1, .inl (V.2.2.1, 7, .inl (zg 1))), (e 2, .inr (8, [.ref h, .ref (ew 2), .ref (eg 2), .int (zd 2)])), (ew 2, .inl (V.2.2.1, 7, .inl (zw 2))), (eg 2, .inl (V.2.2.1, 7, .inl (zg 2))), (e 3, .inr (8, [.ref h, .ref (ew 3), .ref (eg 3), .int oday])), (ew 3, .inl (V.2.2.1, 7, .inl ow)), (eg 3, .inl (V.2.2.1, 7, .inl og)), (e 4, .inr (8, [.ref h, .ref (ew 4), .ref (eg 4), .int (zd 4)])), (ew 4, .inl (V.2.2.1, 7, .inl (zw 4))), (eg 4, .inl (V.2.2.1, 7, .inl (zg 4))), (e 5, .inr (8, [.ref h, .ref (ew 5), .ref (eg 5), .int (zd 5)])), (ew 5, .inl (V.2.2.1, 7, .inl (zw 5))), (eg 5, .inl (V.2.2.1, 7, .inl (zg 5))), (e 6, .inr (8, [.ref h, .ref (ew 6), .ref (eg 6), .int (zd 6)])), (ew 6, .inl (V.2.2.1, 7, .inl (zw 6))), (eg 6, .inl (V.2.2.1, 7, .inl (zg 6))), (e 7, .inr (8, [.ref h, .ref (ew 7), .ref (eg 7), .int (zd 7)])), (ew 7, .inl (V.2.2.1, 7, .inl (zw 7))), (eg 7, .inl (V.2.2.1, 7, .inl (zg 7))), (o, .inr (8, [.ref oh, .ref ow_, .ref og_, .int oday])), (ow_, .inl (V.2.2.1, 7, .inl ow)), (og_, .inl (V.2.2.1, 7, .inl og))]) rfl dX7_add_67 ?_
    exact g_vret X E dX7_add_70 () trivial rfl
  · refine g_aload_n X dX7_add_0 rfl ?_
    refine g_get X uwX7 0 rfl rfl 1 (by decide) kl_X7_7 rfl rfl gwX7 dX7_add_1 ?_
    refine g_aload_n X dX7_add_4 rfl ?_
    refine g_get X uwX7 0 rfl rfl 0 (by decide) kl_X7_21 rfl rfl gwX7 dX7_add_5 ?_
    refine g_alenq X 1 (8) rfl rfl dX7_add_8 ?_
    refine g_icmp_lt X 16 dX7_add_9 (by decide) (fun c9_33 => ?_) (fun c9_33 => absurd (by decide) c9_33)
    refine g_aload_n X dX7_add_16 rfl ?_
    refine g_get X uwX7 0 rfl rfl 1 (by decide) kl_X7_7 rfl rfl gwX7 dX7_add_17 ?_
    refine g_if_lt X 70 dX7_add_20 (by decide) (fun c20_34 => absurd c20_34 (by decide)) (fun c20_34 => ?_)
    refine g_aload_n X dX7_add_23 rfl ?_
    refine g_get X uwX7 0 rfl rfl 1 (by decide) kl_X7_7 rfl rfl gwX7 dX7_add_24 ?_
    refine g_aload_n X dX7_add_27 rfl ?_
    refine g_get X uwX7 0 rfl rfl 0 (by decide) kl_X7_21 rfl rfl gwX7 dX7_add_28 ?_
    refine g_alenq X 1 (8) rfl rfl dX7_add_31 ?_
    refine g_icmp_ge X 70 dX7_add_32 (by decide) (fun c32_35 => absurd c32_35 (by decide)) (fun c32_35 => ?_)
    refine g_aload_n X dX7_add_35 rfl ?_
    refine g_get X uwX7 0 rfl rfl 0 (by decide) kl_X7_21 rfl rfl gwX7 dX7_add_36 ?_
    refine g_aload_n X dX7_add_39 rfl ?_
    refine g_get X uwX7 0 rfl rfl 1 (by decide) kl_X7_7 rfl rfl gwX7 dX7_add_40 ?_
    refine g_aald' X 1 (.ref (e 4)) rfl (i := 4) rfl (by decide) (by decide) rfl dX7_add_43 ?_
    refine g_ifnull X dX7_add_44 ?_
    refine g_aload_n X dX7_add_47 rfl ?_
    refine g_get X uwX7 0 rfl rfl 0 (by decide) kl_X7_21 rfl rfl gwX7 dX7_add_48 ?_
    refine g_aload_n X dX7_add_51 rfl ?_
    refine g_get X uwX7 0 rfl rfl 1 (by decide) kl_X7_7 rfl rfl gwX7 dX7_add_52 ?_
    refine g_aald' X 1 (.ref (e 4)) rfl (i := 4) rfl (by decide) (by decide) rfl dX7_add_55 ?_
    refine g_aload_n X dX7_add_56 rfl ?_
    refine g_callVv X (c_X8_takeFrom V (e 4) (ew 4) (eg 4) (zd 4) (zw 4) (zg 4) h o ow_ og_ oh oday ow og) mo_X8_takeFrom kl_X7_31 [14, 15, 16, 26, 27, 28] [0, 0, 0, 0, 0, 0, 0, 0, 0, 0, 0, 0, 0, 0, 1, 2, 3, 0, 0, 0, 0, 0, 0, 0, 0, 0, 4, 5, 6] rfl (by decide +kernel) rfl rfl (fun _ => Nat.le_of_ble_eq_true rfl) 14 8 rfl rfl (As := [.ref o]) (st := []) (cs' := (0, 0)) rfl rfl rfl rfl dX7_add_57 (fun u_36 hp_37 ws_39 hw_38 => ?_)
    have hw_38x : ws_39 = [(p, .inr (7, [.ref pl, .int (nI 4)])), (pl, .inl (V.2.2.2, 8, .inr (.inr (.inr (.inr (shf e)))))), (e 0, .inr (8, [.ref h, .ref (ew 0), .ref (eg 0), .int (zd 0)])), (ew 0, .inl (V.2.2.1, 7, .inl (zw 0))), (eg 0, .inl (V.2.2.1, 7, .inl (zg 0))), (e 1, .inr (8, [.ref h, .ref (ew 1), .ref (eg 1), .int (zd 1)])), (ew 1, .inl (V.2.2.1, 7, .inl (zw 1))), (eg 1, .inl (V.2.2.1, 7, .inl (zg 1))), (e 2, .inr (8, [.ref h, .ref (ew 2), .ref (eg 2), .int (zd 2)])), (ew 2, .inl (V.2.2.1, 7, .inl (zw 2))), (eg 2, .inl (V.2.2.1, 7, .inl (zg 2))), (e 3, .inr (8, [.ref h, .ref (ew 3), .ref (eg 3), .int (zd 3)])), (ew 3, .inl (V.2.2.1, 7, .inl (zw 3))), (eg 3, .inl (V.2.2.1, 7, .inl (zg 3))), (e 4, .inr (8, [.ref h, .ref (ew 4), .ref (eg 4), .int oday])), (ew 4, .inl (V.2.2.1, 7, .inl ow)), (eg 4, .inl (V.2.2.1, 7, .inl og)), (e 5, .inr (8, [.ref h, .ref (ew 5), .ref (eg 5), .int (zd 5)])), (ew 5, .inl (V.2.2.1, 7, .inl (zw 5))), (eg 5, .inl (V.2.2.1, 7, .inl (zg 5))), (e 6, .inr (8, [.ref h, .ref (ew 6), .ref (eg 6), .int (zd 6)])), (ew 6, .inl (V.2.2.1, 7, .inl (zw 6))), (eg 6, .inl (V.2.2.1, 7, .inl (zg 6))), (e 7, .inr (8, [.ref h, .ref (ew 7), .ref (eg 7), .int (zd 7)])), (ew 7, .inl (V.2.2.1, 7, .inl (zw 7))), (eg 7, .inl (V.2.2.1, 7, .inl (zg 7))), (o, .inr (8, [.ref oh, .ref ow_, .ref og_, .int oday])), (ow_, .inl (V.2.2.1, 7, .inl ow)), (og_, .inl (V.2.2.1, 7, .inl og))] := hw_38.symm
    clear hw_38; subst hw_38x
    refine g_aload_n X dX7_add_60 rfl ?_
    refine g_dup X dX7_add_61 rfl ?_
    refine g_get X uwX7 0 rfl rfl 1 (by decide) kl_X7_7 rfl rfl gwX7 dX7_add_62 ?_
    refine g_iconst X (1) dX7_add_65 (by decide) ?_
    refine g_iadd X dX7_add_66 ?_
    refine g_toe (x' := 5) (by decide) ?_
    refine g_put X uwX7 tyX7 tyX7_ok nmX7 0 rfl rfl 1 (by decide) kl_X7_7 rfl rfl rfl rfl (Nat.le_of_ble_eq_true rfl) gwX7 (ws' := [(p, .inr (7, [.ref pl, .int 5])), (pl, .inl (V.2.2.2, 8, .inr (.inr (.inr (.inr (shf e)))))), (e 0, .inr (8, [.ref h, .ref (ew 0), .ref (eg 0), .int (zd 0)])), (ew 0, .inl (V.2.2.1, 7, .inl (zw 0))), (eg 0, .inl (V.2.2.1, 7, .inl (zg 0))), (e 1, .inr (8, [.ref h, .ref (ew 1), .ref (eg 1), .int (zd 1)])), (ew 1, .inl (V.2.2.1, 7, .inl (zw 1))), (eg 1, .inl (V.2.2.1, 7, .inl (zg 1))), (e 2, .inr (8, [.ref h, .ref (ew 2), .ref (eg 2), .int (zd 2)])), (ew 2, .inl (V.2.2.1, 7, .inl (zw 2))), (eg 2, .inl (V.2.2.1, 7, .inl (zg 2))), (e 3, .inr (8, [.ref h, .ref (ew 3), .ref (eg 3), .int (zd 3)])), (ew 3, .inl (V.2.2.1, 7, .inl (zw 3))), (eg 3, .inl (V.2.2.1, 7, .inl (zg 3))), (e 4, .inr (8, [.ref h, .ref (ew 4), .ref (eg 4), .int oday])), (ew 4, .inl (V.2.2.1, 7, .inl ow)), (eg 4, .inl (V.2.2.1, 7, .inl og)), (e 5, .inr (8, [.ref h, .ref (ew 5), .ref (eg 5), .int (zd 5)])), (ew 5, .inl (V.2.2.1, 7, .inl (zw 5))), (eg 5, .inl (V.2.2.1, 7, .inl (zg 5))), (e 6, .inr (8, [.ref h, .ref (ew 6), .ref (eg 6), .int (zd 6)])), (ew 6, .inl (V.2.2.1, 7, .inl (zw 6))), (eg 6, .inl (V.2.2.1, 7, .inl (zg 6))), (e 7, .inr (8, [.ref h, .ref (ew 7), .ref (eg 7), .int (zd 7)])), (ew 7, .inl (V.2.2.1, 7, .inl (zw 7))), (eg 7, .inl (V.2.2.1, 7, .inl (zg 7))), (o, .inr (8, [.ref oh, .ref ow_, .ref og_, .int oday])), (ow_, .inl (V.2.2.1, 7, .inl ow)), (og_, .inl (V.2.2.1, 7, .inl og))]) rfl dX7_add_67 ?_
    exact g_vret X E dX7_add_70 () trivial rfl
  · refine g_aload_n X dX7_add_0 rfl ?_
    refine g_get X uwX7 0 rfl rfl 1 (by decide) kl_X7_7 rfl rfl gwX7 dX7_add_1 ?_
    refine g_aload_n X dX7_add_4 rfl ?_
    refine g_get X uwX7 0 rfl rfl 0 (by decide) kl_X7_21 rfl rfl gwX7 dX7_add_5 ?_
    refine g_alenq X 1 (8) rfl rfl dX7_add_8 ?_
    refine g_icmp_lt X 16 dX7_add_9 (by decide) (fun c9_41 => ?_) (fun c9_41 => absurd (by decide) c9_41)
    refine g_aload_n X dX7_add_16 rfl ?_
    refine g_get X uwX7 0 rfl rfl 1 (by decide) kl_X7_7 rfl rfl gwX7 dX7_add_17 ?_
    refine g_if_lt X 70 dX7_add_20 (by decide) (fun c20_42 => absurd c20_42 (by decide)) (fun c20_42 => ?_)
    refine g_aload_n X dX7_add_23 rfl ?_
    refine g_get X uwX7 0 rfl rfl 1 (by decide) kl_X7_7 rfl rfl gwX7 dX7_add_24 ?_
    refine g_aload_n X dX7_add_27 rfl ?_
    refine g_get X uwX7 0 rfl rfl 0 (by decide) kl_X7_21 rfl rfl gwX7 dX7_add_28 ?_
    refine g_alenq X 1 (8) rfl rfl dX7_add_31 ?_
    refine g_icmp_ge X 70 dX7_add_32 (by decide) (fun c32_43 => absurd c32_43 (by decide)) (fun c32_43 => ?_)
    refine g_aload_n X dX7_add_35 rfl ?_
    refine g_get X uwX7 0 rfl rfl 0 (by decide) kl_X7_21 rfl rfl gwX7 dX7_add_36 ?_
    refine g_aload_n X dX7_add_39 rfl ?_
    refine g_get X uwX7 0 rfl rfl 1 (by decide) kl_X7_7 rfl rfl gwX7 dX7_add_40 ?_
    refine g_aald' X 1 (.ref (e 5)) rfl (i := 5) rfl (by decide) (by decide) rfl dX7_add_43 ?_
    refine g_ifnull X dX7_add_44 ?_
    refine g_aload_n X dX7_add_47 rfl ?_
    refine g_get X uwX7 0 rfl rfl 0 (by decide) kl_X7_21 rfl rfl gwX7 dX7_add_48 ?_
    refine g_aload_n X dX7_add_51 rfl ?_
    refine g_get X uwX7 0 rfl rfl 1 (by decide) kl_X7_7 rfl rfl gwX7 dX7_add_52 ?_
    refine g_aald' X 1 (.ref (e 5)) rfl (i := 5) rfl (by decide) (by decide) rfl dX7_add_55 ?_
    refine g_aload_n X dX7_add_56 rfl ?_
    refine g_callVv X (c_X8_takeFrom V (e 5) (ew 5) (eg 5) (zd 5) (zw 5) (zg 5) h o ow_ og_ oh oday ow og) mo_X8_takeFrom kl_X7_31 [17, 18, 19, 26, 27, 28] [0, 0, 0, 0, 0, 0, 0, 0, 0, 0, 0, 0, 0, 0, 0, 0, 0, 1, 2, 3, 0, 0, 0, 0, 0, 0, 4, 5, 6] rfl (by decide +kernel) rfl rfl (fun _ => Nat.le_of_ble_eq_true rfl) 17 8 rfl rfl (As := [.ref o]) (st := []) (cs' := (0, 0)) rfl rfl rfl rfl dX7_add_57 (fun u_44 hp_45 ws_47 hw_46 => ?_)
    have hw_46x : ws_47 = [(p, .inr (7, [.ref pl, .int (nI 5)])), (pl, .inl (V.2.2.2, 8, .inr (.inr (.inr (.inr (shf e)))))), (e 0, .inr (8, [.ref h, .ref (ew 0), .ref (eg 0), .int (zd 0)])), (ew 0, .inl (V.2.2.1, 7, .inl (zw 0))), (eg 0, .inl (V.2.2.1, 7, .inl (zg 0))), (e 1, .inr (8, [.ref h, .ref (ew 1), .ref (eg 1), .int (zd 1)])), (ew 1, .inl (V.2.2.1, 7, .inl (zw 1))), (eg 1, .inl (V.2.2.1, 7, .inl (zg 1))), (e 2, .inr (8, [.ref h, .ref (ew 2), .ref (eg 2), .int (zd 2)])), (ew 2, .inl (V.2.2.1, 7, .inl (zw 2))), (eg 2, .inl (V.2.2.1, 7, .inl (zg 2))), (e 3, .inr (8, [.ref h, .ref (ew 3), .ref (eg 3), .int (zd 3)])), (ew 3, .inl (V.2.2.1, 7, .inl (zw 3))), (eg 3, .inl (V.2.2.1, 7, .inl (zg 3))), (e 4, .inr (8, [.ref h, .ref (ew 4), .ref (eg 4), .int (zd 4)])), (ew 4, .inl (V.2.2.1, 7, .inl (zw 4))), (eg 4, .inl (V.2.2.1, 7, .inl (zg 4))), (e 5, .inr (8, [.ref h, .ref (ew 5), .ref (eg 5), .int oday])), (ew 5, .inl (V.2.2.1, 7, .inl ow)), (eg 5, .inl (V.2.2.1, 7, .inl og)), (e 6, .inr (8, [.ref h, .ref (ew 6), .ref (eg 6), .int (zd 6)])), (ew 6, .inl (V.2.2.1, 7, .inl (zw 6))), (eg 6, .inl (V.2.2.1, 7, .inl (zg 6))), (e 7, .inr (8, [.ref h, .ref (ew 7), .ref (eg 7), .int (zd 7)])), (ew 7, .inl (V.2.2.1, 7, .inl (zw 7))), (eg 7, .inl (V.2.2.1, 7, .inl (zg 7))), (o, .inr (8, [.ref oh, .ref ow_, .ref og_, .int oday])), (ow_, .inl (V.2.2.1, 7, .inl ow)), (og_, .inl (V.2.2.1, 7, .inl og))] := hw_46.symm
    clear hw_46; subst hw_46x
    refine g_aload_n X dX7_add_60 rfl ?_
    refine g_dup X dX7_add_61 rfl ?_
    refine g_get X uwX7 0 rfl rfl 1 (by decide) kl_X7_7 rfl rfl gwX7 dX7_add_62 ?_
    refine g_iconst X (1) dX7_add_65 (by decide) ?_
    refine g_iadd X dX7_add_66 ?_
    refine g_toe (x' := 6) (by decide) ?_
    refine g_put X uwX7 tyX7 tyX7_ok nmX7 0 rfl rfl 1 (by decide) kl_X7_7 rfl rfl rfl rfl (Nat.le_of_ble_eq_true rfl) gwX7 (ws' := [(p, .inr (7, [.ref pl, .int 6])), (pl, .inl (V.2.2.2, 8, .inr (.inr (.inr (.inr (shf e)))))), (e 0, .inr (8, [.ref h, .ref (ew 0), .ref (eg 0), .int (zd 0)])), (ew 0, .inl (V.2.2.1, 7, .inl (zw 0))), (eg 0, .inl (V.2.2.1, 7, .inl (zg 0))), (e 1, .inr (8, [.ref h, .ref (ew 1), .ref (eg 1), .int (zd 1)])), (ew 1, .inl (V.2.2.1, 7, .inl (zw 1))), (eg 1, .inl (V.2.2.1, 7, .inl (zg 1))), (e 2, .inr (8, [.ref h, .ref (ew 2), .ref (eg 2), .int (zd 2)])), (ew 2, .inl (V.2.2.1, 7, .inl (zw 2))), (eg 2, .inl (V.2.2.1, 7, .inl (zg 2))), (e 3, .inr (8, [.ref h, .ref (ew 3), .ref (eg 3), .int (zd 3)])), (ew 3, .inl (V.2.2.1, 7, .inl (zw 3))), (eg 3, .inl (V.2.2.1, 7, .inl (zg 3))), (e 4, .inr (8, [.ref h, .ref (ew 4), .ref (eg 4), .int (zd 4)])), (ew 4, .inl (V.2.2.1, 7, .inl (zw 4))), (eg 4, .inl (V.2.2.1, 7, .inl (zg 4))), (e 5, .inr (8, [.ref h, .ref (ew 5), .ref (eg 5), .int oday])), (ew 5, .inl (V.2.2.1, 7, .inl ow)), (eg 5, .inl (V.2.2.1, 7, .inl og)), (e 6, .inr (8, [.ref h, .ref (ew 6), .ref (eg 6), .int (zd 6)])), (ew 6, .inl (V.2.2.1, 7, .inl (zw 6))), (eg 6, .inl (V.2.2.1, 7, .inl (zg 6))), (e 7, .inr (8, [.ref h, .ref (ew 7), .ref (eg 7), .int (zd 7)])), (ew 7, .inl (V.2.2.1, 7, .inl (zw 7))), (eg 7, .inl (V.2.2.1, 7, .inl (zg 7))), (o, .inr (8, [.ref oh, .ref ow_, .ref og_, .int oday])), (ow_, .inl (V.2.2.1, 7, .inl ow)), (og_, .inl (V.2.2.1, 7, .inl og))]) rfl dX7_add_67 ?_
    exact g_vret X E dX7_add_70 () trivial rfl
  · refine g_aload_n X dX7_add_0 rfl ?_
    refine g_get X uwX7 0 rfl rfl 1 (by decide) kl_X7_7 rfl rfl gwX7 dX7_add_1 ?_
    refine g_aload_n X dX7_add_4 rfl ?_
    refine g_get X uwX7 0 rfl rfl 0 (by decide) kl_X7_21 rfl rfl gwX7 dX7_add_5 ?_
    refine g_alenq X 1 (8) rfl rfl dX7_add_8 ?_
    refine g_icmp_lt X 16 dX7_add_9 (by decide) (fun c9_49 => ?_) (fun c9_49 => absurd (by decide) c9_49)
    refine g_aload_n X dX7_add_16 rfl ?_
    refine g_get X uwX7 0 rfl rfl 1 (by decide) kl_X7_7 rfl rfl gwX7 dX7_add_17 ?_
    refine g_if_lt X 70 dX7_add_20 (by decide) (fun c20_50 => absurd c20_50 (by decide)) (fun c20_50 => ?_)
    refine g_aload_n X dX7_add_23 rfl ?_
    refine g_get X uwX7 0 rfl rfl 1 (by decide) kl_X7_7 rfl rfl gwX7 dX7_add_24 ?_
    refine g_aload_n X dX7_add_27 rfl ?_
    refine g_get X uwX7 0 rfl rfl 0 (by decide) kl_X7_21 rfl rfl gwX7 dX7_add_28 ?_
    refine g_alenq X 1 (8) rfl rfl dX7_add_31 ?_
    refine g_icmp_ge X 70 dX7_add_32 (by decide) (fun c32_51 => absurd c32_51 (by decide)) (fun c32_51 => ?_)
    refine g_aload_n X dX7_add_35 rfl ?_
    refine g_get X uwX7 0 rfl rfl 0 (by decide) kl_X7_21 rfl rfl gwX7 dX7_add_36 ?_
    refine g_aload_n X dX7_add_39 rfl ?_
    refine g_get X uwX7 0 rfl rfl 1 (by decide) kl_X7_7 rfl rfl gwX7 dX7_add_40 ?_
    refine g_aald' X 1 (.ref (e 6)) rfl (i := 6) rfl (by decide) (by decide) rfl dX7_add_43 ?_
    refine g_ifnull X dX7_add_44 ?_
    refine g_aload_n X dX7_add_47 rfl ?_
    refine g_get X uwX7 0 rfl rfl 0 (by decide) kl_X7_21 rfl rfl gwX7 dX7_add_48 ?_
    refine g_aload_n X dX7_add_51 rfl ?_
    refine g_get X uwX7 0 rfl rfl 1 (by decide) kl_X7_7 rfl rfl gwX7 dX7_add_52 ?_
    refine g_aald' X 1 (.ref (e 6)) rfl (i := 6) rfl (by decide) (by decide) rfl dX7_add_55 ?_
    refine g_aload_n X dX7_add_56 rfl ?_
    refine g_callVv X (c_X8_takeFrom V (e 6) (ew 6) (eg 6) (zd 6) (zw 6) (zg 6) h o ow_ og_ oh oday ow og) mo_X8_takeFrom kl_X7_31 [20, 21, 22, 26, 27, 28] [0, 0, 0, 0, 0, 0, 0, 0, 0, 0, 0, 0, 0, 0, 0, 0, 0, 0, 0, 0, 1, 2, 3, 0, 0, 0, 4, 5, 6] rfl (by decide +kernel) rfl rfl (fun _ => Nat.le_of_ble_eq_true rfl) 20 8 rfl rfl (As := [.ref o]) (st := []) (cs' := (0, 0)) rfl rfl rfl rfl dX7_add_57 (fun u_52 hp_53 ws_55 hw_54 => ?_)
    have hw_54x : ws_55 = [(p, .inr (7, [.ref pl, .int (nI 6)])), (pl, .inl (V.2.2.2, 8, .inr (.inr (.inr (.inr (shf e)))))), (e 0, .inr (8, [.ref h, .ref (ew 0), .ref (eg 0), .int (zd 0)])), (ew 0, .inl (V.2.2.1, 7, .inl (zw 0))), (eg 0, .inl (V.2.2.1, 7, .inl (zg 0))), (e 1, .inr (8, [.ref h, .ref (ew 1), .ref (eg 1), .int (zd 1)])), (ew 1, .inl (V.2.2.1, 7, .inl (zw 1))), (eg 1, .inl (V.2.2.1, 7, .inl (zg 1))), (e 2, .inr (8, [.ref h, .ref (ew 2), .ref (eg 2), .int (zd 2)])), (ew 2, .inl (V.2.2.1, 7, .inl (zw 2))), (eg 2, .inl (V.2.2.1, 7, .inl (zg 2))), (e 3, .inr (8, [.ref h, .ref (ew 3), .ref (eg 3), .int (zd 3)])), (ew 3, .inl (V.2.2.1, 7, .inl (zw 3))), (eg 3, .inl (V.2.2.1, 7, .inl (zg 3))), (e 4, .inr (8, [.ref h, .ref (ew 4), .ref (eg 4), .int (zd 4)])), (ew 4, .inl (V.2.2.1, 7, .inl (zw 4))), (eg 4, .inl (V.2.2.1, 7, .inl (zg 4))), (e 5, .inr (8, [.ref h, .ref (ew 5), .ref (eg 5), .int (zd 5)])), (ew 5, .inl (V.2.2.1, 7, .inl (zw 5))), (eg 5, .inl (V.2.2.1, 7, .inl (zg 5))), (e 6, .inr (8, [.ref h, .ref (ew 6), .ref (eg 6), .int oday])), (ew 6, .inl (V.2.2.1, 7, .inl ow)), (eg 6, .inl (V.2.2.1, 7, .inl og)), (e 7, .inr (8, [.ref h, .ref (ew 7), .ref (eg 7), .int (zd 7)])), (ew 7, .inl (V.2.2.1, 7, .inl (zw 7))), (eg 7, .inl (V.2.2.1, 7, .inl (zg 7))), (o, .inr (8, [.ref oh, .ref ow_, .ref og_, .int oday])), (ow_, .inl (V.2.2.1, 7, .inl ow)), (og_, .inl (V.2.2.1, 7, .inl og))] := hw_54.symm
    clear hw_54; subst hw_54x
    refine g_aload_n X dX7_add_60 rfl ?_
    refine g_dup X dX7_add_61 rfl ?_
    refine g_get X uwX7 0 rfl rfl 1 (by decide) kl_X7_7 rfl rfl gwX7 dX7_add_62 ?_
    refine g_iconst X (1) dX7_add_65 (by decide) ?_
    refine g_iadd X dX7_add_66 ?_
    refine g_toe (x' := 7) (by decide) ?_
    refine g_put X uwX7 tyX7 tyX7_ok nmX7 0 rfl rfl 1 (by decide) kl_X7_7 rfl rfl rfl rfl (Nat.le_of_ble_eq_true rfl) gwX7 (ws' := [(p, .inr (7, [.ref pl, .int 7])), (pl, .inl (V.2.2.2, 8, .inr (.inr (.inr (.inr (shf e)))))), (e 0, .inr (8, [.ref h, .ref (ew 0), .ref (eg 0), .int (zd 0)])), (ew 0, .inl (V.2.2.1, 7, .inl (zw 0))), (eg 0, .inl (V.2.2.1, 7, .inl (zg 0))), (e 1, .inr (8, [.ref h, .ref (ew 1), .ref (eg 1), .int (zd 1)])), (ew 1, .inl (V.2.2.1, 7, .inl (zw 1))), (eg 1, .inl (V.2.2.1, 7, .inl (zg 1))), (e 2, .inr (8, [.ref h, .ref (ew 2), .ref (eg 2), .int (zd 2)])), (ew 2, .inl (V.2.2.1, 7, .inl (zw 2))), (eg 2, .inl (V.2.2.1, 7, .inl (zg 2))), (e 3, .inr (8, [.ref h, .ref (ew 3), .ref (eg 3), .int (zd 3)])), (ew 3, .inl (V.2.2.1, 7, .inl (zw 3))), (eg 3, .inl (V.2.2.1, 7, .inl (zg 3))), (e 4, .inr (8, [.ref h, .ref (ew 4), .ref (eg 4), .int (zd 4)])), (ew 4, .inl (V.2.2.1, 7, .inl (zw 4))), (eg 4, .inl (V.2.2.1, 7, .inl (zg 4))), (e 5, .inr (8, [.ref h, .ref (ew 5), .ref (eg 5), .int (zd 5)])), (ew 5, .inl (V.2.2.1, 7, .inl (zw 5))), (eg 5, .inl (V.2.2.1, 7, .inl (zg 5))), (e 6, .inr (8, [.ref h, .ref (ew 6), .ref (eg 6), .int oday])), (ew 6, .inl (V.2.2.1, 7, .inl ow)), (eg 6, .inl (V.2.2.1, 7, .inl og)), (e 7, .inr (8, [.ref h, .ref (ew 7), .ref (eg 7), .int (zd 7)])), (ew 7, .inl (V.2.2.1, 7, .inl (zw 7))), (eg 7, .inl (V.2.2.1, 7, .inl (zg 7))), (o, .inr (8, [.ref oh, .ref ow_, .ref og_, .int oday])), (ow_, .inl (V.2.2.1, 7, .inl ow)), (og_, .inl (V.2.2.1, 7, .inl og))]) rfl dX7_add_67 ?_
    exact g_vret X E dX7_add_70 () trivial rfl
  · refine g_aload_n X dX7_add_0 rfl ?_
    refine g_get X uwX7 0 rfl rfl 1 (by decide) kl_X7_7 rfl rfl gwX7 dX7_add_1 ?_
    refine g_aload_n X dX7_add_4 rfl ?_
    refine g_get X uwX7 0 rfl rfl 0 (by decide) kl_X7_21 rfl rfl gwX7 dX7_add_5 ?_
    refine g_alenq X 1 (8) rfl rfl dX7_add_8 ?_
    refine g_icmp_lt X 16 dX7_add_9 (by decide) (fun c9_57 => ?_) (fun c9_57 => absurd (by decide) c9_57)
    refine g_aload_n X dX7_add_16 rfl ?_
    refine g_get X uwX7 0 rfl rfl 1 (by decide) kl_X7_7 rfl rfl gwX7 dX7_add_17 ?_
    refine g_if_lt X 70 dX7_add_20 (by decide) (fun c20_58 => absurd c20_58 (by decide)) (fun c20_58 => ?_)
    refine g_aload_n X dX7_add_23 rfl ?_
    refine g_get X uwX7 0 rfl rfl 1 (by decide) kl_X7_7 rfl rfl gwX7 dX7_add_24 ?_
    refine g_aload_n X dX7_add_27 rfl ?_
    refine g_get X uwX7 0 rfl rfl 0 (by decide) kl_X7_21 rfl rfl gwX7 dX7_add_28 ?_
    refine g_alenq X 1 (8) rfl rfl dX7_add_31 ?_
    refine g_icmp_ge X 70 dX7_add_32 (by decide) (fun c32_59 => absurd c32_59 (by decide)) (fun c32_59 => ?_)
    refine g_aload_n X dX7_add_35 rfl ?_
    refine g_get X uwX7 0 rfl rfl 0 (by decide) kl_X7_21 rfl rfl gwX7 dX7_add_36 ?_
    refine g_aload_n X dX7_add_39 rfl ?_
    refine g_get X uwX7 0 rfl rfl 1 (by decide) kl_X7_7 rfl rfl gwX7 dX7_add_40 ?_
    refine g_aald' X 1 (.ref (e 7)) rfl (i := 7) rfl (by decide) (by decide) rfl dX7_add_43 ?_
    refine g_ifnull X dX7_add_44 ?_
    refine g_aload_n X dX7_add_47 rfl ?_
    refine g_get X uwX7 0 rfl rfl 0 (by decide) kl_X7_21 rfl rfl gwX7 dX7_add_48 ?_
    refine g_aload_n X dX7_add_51 rfl ?_
    refine g_get X uwX7 0 rfl rfl 1 (by decide) kl_X7_7 rfl rfl gwX7 dX7_add_52 ?_
    refine g_aald' X 1 (.ref (e 7)) rfl (i := 7) rfl (by decide) (by decide) rfl dX7_add_55 ?_
    refine g_aload_n X dX7_add_56 rfl ?_
    refine g_callVv X (c_X8_takeFrom V (e 7) (ew 7) (eg 7) (zd 7) (zw 7) (zg 7) h o ow_ og_ oh oday ow og) mo_X8_takeFrom kl_X7_31 [23, 24, 25, 26, 27, 28] [0, 0, 0, 0, 0, 0, 0, 0, 0, 0, 0, 0, 0, 0, 0, 0, 0, 0, 0, 0, 0, 0, 0, 1, 2, 3, 4, 5, 6] rfl (by decide +kernel) rfl rfl (fun _ => Nat.le_of_ble_eq_true rfl) 23 8 rfl rfl (As := [.ref o]) (st := []) (cs' := (0, 0)) rfl rfl rfl rfl dX7_add_57 (fun u_60 hp_61 ws_63 hw_62 => ?_)
    have hw_62x : ws_63 = [(p, .inr (7, [.ref pl, .int (nI 7)])), (pl, .inl (V.2.2.2, 8, .inr (.inr (.inr (.inr (shf e)))))), (e 0, .inr (8, [.ref h, .ref (ew 0), .ref (eg 0), .int (zd 0)])), (ew 0, .inl (V.2.2.1, 7, .inl (zw 0))), (eg 0, .inl (V.2.2.1, 7, .inl (zg 0))), (e 1, .inr (8, [.ref h, .ref (ew 1), .ref (eg 1), .int (zd 1)])), (ew 1, .inl (V.2.2.1, 7, .inl (zw 1))), (eg 1, .inl (V.2.2.1, 7, .inl (zg 1))), (e 2, .inr (8, [.ref h, .ref (ew 2), .ref (eg 2), .int (zd 2)])), (ew 2, .inl (V.2.2.1, 7, .inl (zw 2))), (eg 2, .inl (V.2.2.1, 7, .inl (zg 2))), (e 3, .inr (8, [.ref h, .ref (ew 3), .ref (eg 3), .int (zd 3)])), (ew 3, .inl (V.2.2.1, 7, .inl (zw 3))), (eg 3, .inl (V.2.2.1, 7, .inl (zg 3))), (e 4, .inr (8, [.ref h, .ref (ew 4), .ref (eg 4), .int (zd 4)])), (ew 4, .inl (V.2.2.1, 7, .inl (zw 4))), (eg 4, .inl (V.2.2.1, 7, .inl (zg 4))), (e 5, .inr (8, [.ref h, .ref (ew 5), .ref (eg 5), .int (zd 5)])), (ew 5, .inl (V.2.2.1, 7, .inl (zw 5))), (eg 5, .inl (V.2.2.1, 7, .inl (zg 5))), (e 6, .inr (8, [.ref h, .ref (ew 6), .ref (eg 6), .int (zd 6)])), (ew 6, .inl (V.2.2.1, 7, .inl (zw 6))), (eg 6, .inl (V.2.2.1, 7, .inl (zg 6))), (e 7, .inr (8, [.ref h, .ref (ew 7), .ref (eg 7), .int oday])), (ew 7, .inl (V.2.2.1, 7, .inl ow)), (eg 7, .inl (V.2.2.1, 7, .inl og)), (o, .inr (8, [.ref oh, .ref ow_, .ref og_, .int oday])), (ow_, .inl (V.2.2.1, 7, .inl ow)), (og_, .inl (V.2.2.1, 7, .inl og))] := hw_62.symm
    clear hw_62; subst hw_62x
    refine g_aload_n X dX7_add_60 rfl ?_
    refine g_dup X dX7_add_61 rfl ?_
    refine g_get X uwX7 0 rfl rfl 1 (by decide) kl_X7_7 rfl rfl gwX7 dX7_add_62 ?_
    refine g_iconst X (1) dX7_add_65 (by decide) ?_
    refine g_iadd X dX7_add_66 ?_
    refine g_toe (x' := 8) (by decide) ?_
    refine g_put X uwX7 tyX7 tyX7_ok nmX7 0 rfl rfl 1 (by decide) kl_X7_7 rfl rfl rfl rfl (Nat.le_of_ble_eq_true rfl) gwX7 (ws' := [(p, .inr (7, [.ref pl, .int 8])), (pl, .inl (V.2.2.2, 8, .inr (.inr (.inr (.inr (shf e)))))), (e 0, .inr (8, [.ref h, .ref (ew 0), .ref (eg 0), .int (zd 0)])), (ew 0, .inl (V.2.2.1, 7, .inl (zw 0))), (eg 0, .inl (V.2.2.1, 7, .inl (zg 0))), (e 1, .inr (8, [.ref h, .ref (ew 1), .ref (eg 1), .int (zd 1)])), (ew 1, .inl (V.2.2.1, 7, .inl (zw 1))), (eg 1, .inl (V.2.2.1, 7, .inl (zg 1))), (e 2, .inr (8, [.ref h, .ref (ew 2), .ref (eg 2), .int (zd 2)])), (ew 2, .inl (V.2.2.1, 7, .inl (zw 2))), (eg 2, .inl (V.2.2.1, 7, .inl (zg 2))), (e 3, .inr (8, [.ref h, .ref (ew 3), .ref (eg 3), .int (zd 3)])), (ew 3, .inl (V.2.2.1, 7, .inl (zw 3))), (eg 3, .inl (V.2.2.1, 7, .inl (zg 3))), (e 4, .inr (8, [.ref h, .ref (ew 4), .ref (eg 4), .int (zd 4)])), (ew 4, .inl (V.2.2.1, 7, .inl (zw 4))), (eg 4, .inl (V.2.2.1, 7, .inl (zg 4))), (e 5, .inr (8, [.ref h, .ref (ew 5), .ref (eg 5), .int (zd 5)])), (ew 5, .inl (V.2.2.1, 7, .inl (zw 5))), (eg 5, .inl (V.2.2.1, 7, .inl (zg 5))), (e 6, .inr (8, [.ref h, .ref (ew 6), .ref (eg 6), .int (zd 6)])), (ew 6, .inl (V.2.2.1, 7, .inl (zw 6))), (eg 6, .inl (V.2.2.1, 7, .inl (zg 6))), (e 7, .inr (8, [.ref h, .ref (ew 7), .ref (eg 7), .int oday])), (ew 7, .inl (V.2.2.1, 7, .inl ow)), (eg 7, .inl (V.2.2.1, 7, .inl og)), (o, .inr (8, [.ref oh, .ref ow_, .ref og_, .int oday])), (ow_, .inl (V.2.2.1, 7, .inl ow)), (og_, .inl (V.2.2.1, 7, .inl og))]) rfl dX7_add_67 ?_
    exact g_vret X E dX7_add_70 () trivial rfl
  · refine g_aload_n X dX7_add_0 rfl ?_
    refine g_get X uwX7 0 rfl rfl 1 (by decide) kl_X7_7 rfl rfl gwX7 dX7_add_1 ?_
    refine g_aload_n X dX7_add_4 rfl ?_
    refine g_get X uwX7 0 rfl rfl 0 (by decide) kl_X7_21 rfl rfl gwX7 dX7_add_5 ?_
    refine g_alenq X 1 (8) rfl rfl dX7_add_8 ?_
    refine g_icmp_lt X 16 dX7_add_9 (by decide) (fun c9_65 => absurd c9_65 (by decide)) (fun c9_65 => ?_)
    refine g_aload_n X dX7_add_12 rfl ?_
    refine g_callVv X (c_X7_dropOldest V p pl e ew eg zw zg zd h (nI 8)) mo_X7_dropOldest kl_X7_28 [0, 1, 2, 3, 4, 5, 6, 7, 8, 9, 10, 11, 12, 13, 14, 15, 16, 17, 18, 19, 20, 21, 22, 23, 24, 25] [1, 2, 3, 4, 5, 6, 7, 8, 9, 10, 11, 12, 13, 14, 15, 16, 17, 18, 19, 20, 21, 22, 23, 24, 25, 26, 0, 0, 0] rfl (by decide +kernel) rfl rfl (fun _ => Nat.le_of_ble_eq_true rfl) 0 7 rfl rfl (As := []) (st := []) (cs' := (0, 0)) rfl rfl rfl rfl dX7_add_13 (fun u_66 hp_67 ws_69 hw_68 => ?_)
    have hw_68x : ws_69 = [(p, .inr (7, [.ref pl, .int 7])), (pl, .inl (V.2.2.2, 8, .inr (.inr (.inr (.inr (shf e)))))), (e 0, .inr (8, [.ref h, .ref (ew 0), .ref (eg 0), .int (zd 1)])), (ew 0, .inl (V.2.2.1, 7, .inl (zw 1))), (eg 0, .inl (V.2.2.1, 7, .inl (zg 1))), (e 1, .inr (8, [.ref h, .ref (ew 1), .ref (eg 1), .int (zd 2)])), (ew 1, .inl (V.2.2.1, 7, .inl (zw 2))), (eg 1, .inl (V.2.2.1, 7, .inl (zg 2))), (e 2, .inr (8, [.ref h, .ref (ew 2), .ref (eg 2), .int (zd 3)])), (ew 2, .inl (V.2.2.1, 7, .inl (zw 3))), (eg 2, .inl (V.2.2.1, 7, .inl (zg 3))), (e 3, .inr (8, [.ref h, .ref (ew 3), .ref (eg 3), .int (zd 4)])), (ew 3, .inl (V.2.2.1, 7, .inl (zw 4))), (eg 3, .inl (V.2.2.1, 7, .inl (zg 4))), (e 4, .inr (8, [.ref h, .ref (ew 4), .ref (eg 4), .int (zd 5)])), (ew 4, .inl (V.2.2.1, 7, .inl (zw 5))), (eg 4, .inl (V.2.2.1, 7, .inl (zg 5))), (e 5, .inr (8, [.ref h, .ref (ew 5), .ref (eg 5), .int (zd 6)])), (ew 5, .inl (V.2.2.1, 7, .inl (zw 6))), (eg 5, .inl (V.2.2.1, 7, .inl (zg 6))), (e 6, .inr (8, [.ref h, .ref (ew 6), .ref (eg 6), .int (zd 7)])), (ew 6, .inl (V.2.2.1, 7, .inl (zw 7))), (eg 6, .inl (V.2.2.1, 7, .inl (zg 7))), (e 7, .inr (8, [.ref h, .ref (ew 7), .ref (eg 7), .int (zd 7)])), (ew 7, .inl (V.2.2.1, 7, .inl (zw 7))), (eg 7, .inl (V.2.2.1, 7, .inl (zg 7))), (o, .inr (8, [.ref oh, .ref ow_, .ref og_, .int oday])), (ow_, .inl (V.2.2.1, 7, .inl ow)), (og_, .inl (V.2.2.1, 7, .inl og))] := hw_68.symm
    clear hw_68; subst hw_68x
    refine g_aload_n X dX7_add_16 rfl ?_
    refine g_get X uwX7 0 rfl rfl 1 (by decide) kl_X7_7 rfl rfl gwX7 dX7_add_17 ?_
    refine g_if_lt X 70 dX7_add_20 (by decide) (fun c20_71 => absurd c20_71 (by decide)) (fun c20_71 => ?_)
    refine g_aload_n X dX7_add_23 rfl ?_
    refine g_get X uwX7 0 rfl rfl 1 (by decide) kl_X7_7 rfl rfl gwX7 dX7_add_24 ?_
    refine g_aload_n X dX7_add_27 rfl ?_
    refine g_get X uwX7 0 rfl rfl 0 (by decide) kl_X7_21 rfl rfl gwX7 dX7_add_28 ?_
    refine g_alenq X 1 (8) rfl rfl dX7_add_31 ?_
    refine g_icmp_ge X 70 dX7_add_32 (by decide) (fun c32_72 => absurd c32_72 (by decide)) (fun c32_72 => ?_)
    refine g_aload_n X dX7_add_35 rfl ?_
    refine g_get X uwX7 0 rfl rfl 0 (by decide) kl_X7_21 rfl rfl gwX7 dX7_add_36 ?_
    refine g_aload_n X dX7_add_39 rfl ?_
    refine g_get X uwX7 0 rfl rfl 1 (by decide) kl_X7_7 rfl rfl gwX7 dX7_add_40 ?_
    refine g_aald' X 1 (.ref (e 7)) rfl (i := 7) rfl (by decide) (by decide) rfl dX7_add_43 ?_
    refine g_ifnull X dX7_add_44 ?_
    refine g_aload_n X dX7_add_47 rfl ?_
    refine g_get X uwX7 0 rfl rfl 0 (by decide) kl_X7_21 rfl rfl gwX7 dX7_add_48 ?_
    refine g_aload_n X dX7_add_51 rfl ?_
    refine g_get X uwX7 0 rfl rfl 1 (by decide) kl_X7_7 rfl rfl gwX7 dX7_add_52 ?_
    refine g_aald' X 1 (.ref (e 7)) rfl (i := 7) rfl (by decide) (by decide) rfl dX7_add_55 ?_
    refine g_aload_n X dX7_add_56 rfl ?_
    refine g_callVv X (c_X8_takeFrom V (e 7) (ew 7) (eg 7) (zd 7) (zw 7) (zg 7) h o ow_ og_ oh oday ow og) mo_X8_takeFrom kl_X7_31 [23, 24, 25, 26, 27, 28] [0, 0, 0, 0, 0, 0, 0, 0, 0, 0, 0, 0, 0, 0, 0, 0, 0, 0, 0, 0, 0, 0, 0, 1, 2, 3, 4, 5, 6] rfl (by decide +kernel) rfl rfl (fun _ => Nat.le_of_ble_eq_true rfl) 23 8 rfl rfl (As := [.ref o]) (st := []) (cs' := (0, 0)) rfl rfl rfl rfl dX7_add_57 (fun u_73 hp_74 ws_76 hw_75 => ?_)
    have hw_75x : ws_76 = [(p, .inr (7, [.ref pl, .int 7])), (pl, .inl (V.2.2.2, 8, .inr (.inr (.inr (.inr (shf e)))))), (e 0, .inr (8, [.ref h, .ref (ew 0), .ref (eg 0), .int (zd 1)])), (ew 0, .inl (V.2.2.1, 7, .inl (zw 1))), (eg 0, .inl (V.2.2.1, 7, .inl (zg 1))), (e 1, .inr (8, [.ref h, .ref (ew 1), .ref (eg 1), .int (zd 2)])), (ew 1, .inl (V.2.2.1, 7, .inl (zw 2))), (eg 1, .inl (V.2.2.1, 7, .inl (zg 2))), (e 2, .inr (8, [.ref h, .ref (ew 2), .ref (eg 2), .int (zd 3)])), (ew 2, .inl (V.2.2.1, 7, .inl (zw 3))), (eg 2, .inl (V.2.2.1, 7, .inl (zg 3))), (e 3, .inr (8, [.ref h, .ref (ew 3), .ref (eg 3), .int (zd 4)])), (ew 3, .inl (V.2.2.1, 7, .inl (zw 4))), (eg 3, .inl (V.2.2.1, 7, .inl (zg 4))), (e 4, .inr (8, [.ref h, .ref (ew 4), .ref (eg 4), .int (zd 5)])), (ew 4, .inl (V.2.2.1, 7, .inl (zw 5))), (eg 4, .inl (V.2.2.1, 7, .inl (zg 5))), (e 5, .inr (8, [.ref h, .ref (ew 5), .ref (eg 5), .int (zd 6)])), (ew 5, .inl (V.2.2.1, 7, .inl (zw 6))), (eg 5, .inl (V.2.2.1, 7, .inl (zg 6))), (e 6, .inr (8, [.ref h, .ref (ew 6), .ref (eg 6), .int (zd 7)])), (ew 6, .inl (V.2.2.1, 7, .inl (zw 7))), (eg 6, .inl (V.2.2.1, 7, .inl (zg 7))), (e 7, .inr (8, [.ref h, .ref (ew 7), .ref (eg 7), .int oday])), (ew 7, .inl (V.2.2.1, 7, .inl ow)), (eg 7, .inl (V.2.2.1, 7, .inl og)), (o, .inr (8, [.ref oh, .ref ow_, .ref og_, .int oday])), (ow_, .inl (V.2.2.1, 7, .inl ow)), (og_, .inl (V.2.2.1, 7, .inl og))] := hw_75.symm
    clear hw_75; subst hw_75x
    refine g_aload_n X dX7_add_60 rfl ?_
    refine g_dup X dX7_add_61 rfl ?_
    refine g_get X uwX7 0 rfl rfl 1 (by decide) kl_X7_7 rfl rfl gwX7 dX7_add_62 ?_
    refine g_iconst X (1) dX7_add_65 (by decide) ?_
    refine g_iadd X dX7_add_66 ?_
    refine g_toe (x' := 8) (by decide) ?_
    refine g_put X uwX7 tyX7 tyX7_ok nmX7 0 rfl rfl 1 (by decide) kl_X7_7 rfl rfl rfl rfl (Nat.le_of_ble_eq_true rfl) gwX7 (ws' := [(p, .inr (7, [.ref pl, .int 8])), (pl, .inl (V.2.2.2, 8, .inr (.inr (.inr (.inr (shf e)))))), (e 0, .inr (8, [.ref h, .ref (ew 0), .ref (eg 0), .int (zd 1)])), (ew 0, .inl (V.2.2.1, 7, .inl (zw 1))), (eg 0, .inl (V.2.2.1, 7, .inl (zg 1))), (e 1, .inr (8, [.ref h, .ref (ew 1), .ref (eg 1), .int (zd 2)])), (ew 1, .inl (V.2.2.1, 7, .inl (zw 2))), (eg 1, .inl (V.2.2.1, 7, .inl (zg 2))), (e 2, .inr (8, [.ref h, .ref (ew 2), .ref (eg 2), .int (zd 3)])), (ew 2, .inl (V.2.2.1, 7, .inl (zw 3))), (eg 2, .inl (V.2.2.1, 7, .inl (zg 3))), (e 3, .inr (8, [.ref h, .ref (ew 3), .ref (eg 3), .int (zd 4)])), (ew 3, .inl (V.2.2.1, 7, .inl (zw 4))), (eg 3, .inl (V.2.2.1, 7, .inl (zg 4))), (e 4, .inr (8, [.ref h, .ref (ew 4), .ref (eg 4), .int (zd 5)])), (ew 4, .inl (V.2.2.1, 7, .inl (zw 5))), (eg 4, .inl (V.2.2.1, 7, .inl (zg 5))), (e 5, .inr (8, [.ref h, .ref (ew 5), .ref (eg 5), .int (zd 6)])), (ew 5, .inl (V.2.2.1, 7, .inl (zw 6))), (eg 5, .inl (V.2.2.1, 7, .inl (zg 6))), (e 6, .inr (8, [.ref h, .ref (ew 6), .ref (eg 6), .int (zd 7)])), (ew 6, .inl (V.2.2.1, 7, .inl (zw 7))), (eg 6, .inl (V.2.2.1, 7, .inl (zg 7))), (e 7, .inr (8, [.ref h, .ref (ew 7), .ref (eg 7), .int oday])), (ew 7, .inl (V.2.2.1, 7, .inl ow)), (eg 7, .inl (V.2.2.1, 7, .inl og)), (o, .inr (8, [.ref oh, .ref ow_, .ref og_, .int oday])), (ow_, .inl (V.2.2.1, 7, .inl ow)), (og_, .inl (V.2.2.1, 7, .inl og))]) rfl dX7_add_67 ?_
    exact g_vret X E dX7_add_70 () trivial rfl

set_option maxHeartbeats 4000000 in
set_option maxRecDepth 100000 in
theorem c_X7_add2 (V : gV) (p : Nat) (pl : Nat) (e : Nat → Nat) (ew : Nat → Nat) (eg : Nat → Nat) (zw : Nat → Nat → Int32) (zg : Nat → Nat → Int32) (zd : Nat → Int32) (h : Nat) (q : Nat) (o : Nat) (ow_ : Nat) (og_ : Nat) (oh : Nat) (oday : Int32) (ow : Nat → Int32) (og : Nat → Int32) (hq : q < 2) : Kv V yX7_add cX7_add 2 ({ frames := 2, cells := 0, slots := 0, locals := 44 }) [.ref p, .ref o] [(p, .inr (7, [.ref pl, .int (nI q)])), (pl, .inl (V.2.2.2, 2, .inr (.inr (.inr (.inr (shf e)))))), (e 0, .inr (8, [.ref h, .ref (ew 0), .ref (eg 0), .int (zd 0)])), (ew 0, .inl (V.2.2.1, 7, .inl (zw 0))), (eg 0, .inl (V.2.2.1, 7, .inl (zg 0))), (e 1, .inr (8, [.ref h, .ref (ew 1), .ref (eg 1), .int (zd 1)])), (ew 1, .inl (V.2.2.1, 7, .inl (zw 1))), (eg 1, .inl (V.2.2.1, 7, .inl (zg 1))), (o, .inr (8, [.ref oh, .ref ow_, .ref og_, .int oday])), (ow_, .inl (V.2.2.1, 7, .inl ow)), (og_, .inl (V.2.2.1, 7, .inl og))] (fun u : Unit => True) (fun u => [(p, .inr (7, [.ref pl, .int (nI (q + 1))])), (pl, .inl (V.2.2.2, 2, .inr (.inr (.inr (.inr (shf e)))))), (e 0, .inr (8, [.ref h, .ref (ew 0), .ref (eg 0), .int (pushF q oday zd 0)])), (ew 0, .inl (V.2.2.1, 7, .inl (pushF q ow zw 0))), (eg 0, .inl (V.2.2.1, 7, .inl (pushF q og zg 0))), (e 1, .inr (8, [.ref h, .ref (ew 1), .ref (eg 1), .int (pushF q oday zd 1)])), (ew 1, .inl (V.2.2.1, 7, .inl (pushF q ow zw 1))), (eg 1, .inl (V.2.2.1, 7, .inl (pushF q og zg 1))), (o, .inr (8, [.ref oh, .ref ow_, .ref og_, .int oday])), (ow_, .inl (V.2.2.1, 7, .inl ow)), (og_, .inl (V.2.2.1, 7, .inl og))]) := by
  refine Kv.of [some (.ref p), some (.ref o)] (by decide) (Nat.le_of_ble_eq_true rfl) rfl rfl ?_
  intro Z X E
  have X : gX V Z RX7 cX7_add 2 ({ frames := 2, cells := 0, slots := 0, locals := 44 }) := X
  obtain rfl | rfl : q = 0 ∨ q = 1 := by omega
  · refine g_aload_n X dX7_add_0 rfl ?_
    refine g_get X uwX7 0 rfl rfl 1 (by decide) kl_X7_7 rfl rfl gwX7 dX7_add_1 ?_
    refine g_aload_n X dX7_add_4 rfl ?_
    refine g_get X uwX7 0 rfl rfl 0 (by decide) kl_X7_21 rfl rfl gwX7 dX7_add_5 ?_
    refine g_alenq X 1 (2) rfl rfl dX7_add_8 ?_
    refine g_icmp_lt X 16 dX7_add_9 (by decide) (fun c9_1 => ?_) (fun c9_1 => absurd (by decide) c9_1)
    refine g_aload_n X dX7_add_16 rfl ?_
    refine g_get X uwX7 0 rfl rfl 1 (by decide) kl_X7_7 rfl rfl gwX7 dX7_add_17 ?_
    refine g_if_lt X 70 dX7_add_20 (by decide) (fun c20_2 => absurd c20_2 (by decide)) (fun c20_2 => ?_)
    refine g_aload_n X dX7_add_23 rfl ?_
    refine g_get X uwX7 0 rfl rfl 1 (by decide) kl_X7_7 rfl rfl gwX7 dX7_add_24 ?_
    refine g_aload_n X dX7_add_27 rfl ?_
    refine g_get X uwX7 0 rfl rfl 0 (by decide) kl_X7_21 rfl rfl gwX7 dX7_add_28 ?_
    refine g_alenq X 1 (2) rfl rfl dX7_add_31 ?_
    refine g_icmp_ge X 70 dX7_add_32 (by decide) (fun c32_3 => absurd c32_3 (by decide)) (fun c32_3 => ?_)
    refine g_aload_n X dX7_add_35 rfl ?_
    refine g_get X uwX7 0 rfl rfl 0 (by decide) kl_X7_21 rfl rfl gwX7 dX7_add_36 ?_
    refine g_aload_n X dX7_add_39 rfl ?_
    refine g_get X uwX7 0 rfl rfl 1 (by decide) kl_X7_7 rfl rfl gwX7 dX7_add_40 ?_
    refine g_aald' X 1 (.ref (e 0)) rfl (i := 0) rfl (by decide) (by decide) rfl dX7_add_43 ?_
    refine g_ifnull X dX7_add_44 ?_
    refine g_aload_n X dX7_add_47 rfl ?_
    refine g_get X uwX7 0 rfl rfl 0 (by decide) kl_X7_21 rfl rfl gwX7 dX7_add_48 ?_
    refine g_aload_n X dX7_add_51 rfl ?_
    refine g_get X uwX7 0 rfl rfl 1 (by decide) kl_X7_7 rfl rfl gwX7 dX7_add_52 ?_
    refine g_aald' X 1 (.ref (e 0)) rfl (i := 0) rfl (by decide) (by decide) rfl dX7_add_55 ?_
    refine g_aload_n X dX7_add_56 rfl ?_
    refine g_callVv X (c_X8_takeFrom V (e 0) (ew 0) (eg 0) (zd 0) (zw 0) (zg 0) h o ow_ og_ oh oday ow og) mo_X8_takeFrom kl_X7_31 [2, 3, 4, 8, 9, 10] [0, 0, 1, 2, 3, 0, 0, 0, 4, 5, 6] rfl (by decide +kernel) rfl rfl (fun _ => Nat.le_of_ble_eq_true rfl) 2 8 rfl rfl (As := [.ref o]) (st := []) (cs' := (0, 0)) rfl rfl rfl rfl dX7_add_57 (fun u_4 hp_5 ws_7 hw_6 => ?_)
    have hw_6x : ws_7 = [(p, .inr (7, [.ref pl, .int (nI 0)])), (pl, .inl (V.2.2.2, 2, .inr (.inr (.inr (.inr (shf e)))))), (e 0, .inr (8, [.ref h, .ref (ew 0), .ref (eg 0), .int oday])), (ew 0, .inl (V.2.2.1, 7, .inl ow)), (eg 0, .inl (V.2.2.1, 7, .inl og)), (e 1, .inr (8, [.ref h, .ref (ew 1), .ref (eg 1), .int (zd 1)])), (ew 1, .inl (V.2.2.1, 7, .inl (zw 1))), (eg 1, .inl (V.2.2.1, 7, .inl (zg 1))), (o, .inr (8, [.ref oh, .ref ow_, .ref og_, .int oday])), (ow_, .inl (V.2.2.1, 7, .inl ow)), (og_, .inl (V.2.2.1, 7, .inl og))] := hw_6.symm
    clear hw_6; subst hw_6x
    refine g_aload_n X dX7_add_60 rfl ?_
    refine g_dup X dX7_add_61 rfl ?_
    refine g_get X uwX7 0 rfl rfl 1 (by decide) kl_X7_7 rfl rfl gwX7 dX7_add_62 ?_
    refine g_iconst X (1) dX7_add_65 (by decide) ?_
    refine g_iadd X dX7_add_66 ?_
    refine g_toe (x' := 1) (by decide) ?_
    refine g_put X uwX7 tyX7 tyX7_ok nmX7 0 rfl rfl 1 (by decide) kl_X7_7 rfl rfl rfl rfl (Nat.le_of_ble_eq_true rfl) gwX7 (ws' := [(p, .inr (7, [.ref pl, .int 1])), (pl, .inl (V.2.2.2, 2, .inr (.inr (.inr (.inr (shf e)))))), (e 0, .inr (8, [.ref h, .ref (ew 0), .ref (eg 0), .int oday])), (ew 0, .inl (V.2.2.1, 7, .inl ow)), (eg 0, .inl (V.2.2.1, 7, .inl og)), (e 1, .inr (8, [.ref h, .ref (ew 1), .ref (eg 1), .int (zd 1)])), (ew 1, .inl (V.2.2.1, 7, .inl (zw 1))), (eg 1, .inl (V.2.2.1, 7, .inl (zg 1))), (o, .inr (8, [.ref oh, .ref ow_, .ref og_, .int oday])), (ow_, .inl (V.2.2.1, 7, .inl ow)), (og_, .inl (V.2.2.1, 7, .inl og))]) rfl dX7_add_67 ?_
    exact g_vret X E dX7_add_70 () trivial rfl
  · refine g_aload_n X dX7_add_0 rfl ?_
    refine g_get X uwX7 0 rfl rfl 1 (by decide) kl_X7_7 rfl rfl gwX7 dX7_add_1 ?_
    refine g_aload_n X dX7_add_4 rfl ?_
    refine g_get X uwX7 0 rfl rfl 0 (by decide) kl_X7_21 rfl rfl gwX7 dX7_add_5 ?_
    refine g_alenq X 1 (2) rfl rfl dX7_add_8 ?_
    refine g_icmp_lt X 16 dX7_add_9 (by decide) (fun c9_9 => ?_) (fun c9_9 => absurd (by decide) c9_9)
    refine g_aload_n X dX7_add_16 rfl ?_
    refine g_get X uwX7 0 rfl rfl 1 (by decide) kl_X7_7 rfl rfl gwX7 dX7_add_17 ?_
    refine g_if_lt X 70 dX7_add_20 (by decide) (fun c20_10 => absurd c20_10 (by decide)) (fun c20_10 => ?_)
    refine g_aload_n X dX7_add_23 rfl ?_
    refine g_get X uwX7 0 rfl rfl 1 (by decide) kl_X7_7 rfl rfl gwX7 dX7_add_24 ?_
    refine g_aload_n X dX7_add_27 rfl ?_
    refine g_get X uwX7 0 rfl rfl 0 (by decide) kl_X7_21 rfl rfl gwX7 dX7_add_28 ?_
    refine g_alenq X 1 (2) rfl rfl dX7_add_31 ?_
    refine g_icmp_ge X 70 dX7_add_32 (by decide) (fun c32_11 => absurd c32_11 (by decide)) (fun c32_11 => ?_)
    refine g_aload_n X dX7_add_35 rfl ?_
    refine g_get X uwX7 0 rfl rfl 0 (by decide) kl_X7_21 rfl rfl gwX7 dX7_add_36 ?_
    refine g_aload_n X dX7_add_39 rfl ?_
    refine g_get X uwX7 0 rfl rfl 1 (by decide) kl_X7_7 rfl rfl gwX7 dX7_add_40 ?_
    refine g_aald' X 1 (.ref (e 1)) rfl (i := 1) rfl (by decide) (by decide) rfl dX7_add_43 ?_
    refine g_ifnull X dX7_add_44 ?_
    refine g_aload_n X dX7_add_47 rfl ?_
    refine g_get X uwX7 0 rfl rfl 0 (by decide) kl_X7_21 rfl rfl gwX7 dX7_add_48 ?_
    refine g_aload_n X dX7_add_51 rfl ?_
    refine g_get X uwX7 0 rfl rfl 1 (by decide) kl_X7_7 rfl rfl gwX7 dX7_add_52 ?_
    refine g_aald' X 1 (.ref (e 1)) rfl (i := 1) rfl (by decide) (by decide) rfl dX7_add_55 ?_
    refine g_aload_n X dX7_add_56 rfl ?_
    refine g_callVv X (c_X8_takeFrom V (e 1) (ew 1) (eg 1) (zd 1) (zw 1) (zg 1) h o ow_ og_ oh oday ow og) mo_X8_takeFrom kl_X7_31 [5, 6, 7, 8, 9, 10] [0, 0, 0, 0, 0, 1, 2, 3, 4, 5, 6] rfl (by decide +kernel) rfl rfl (fun _ => Nat.le_of_ble_eq_true rfl) 5 8 rfl rfl (As := [.ref o]) (st := []) (cs' := (0, 0)) rfl rfl rfl rfl dX7_add_57 (fun u_12 hp_13 ws_15 hw_14 => ?_)
    have hw_14x : ws_15 = [(p, .inr (7, [.ref pl, .int (nI 1)])), (pl, .inl (V.2.2.2, 2, .inr (.inr (.inr (.inr (shf e)))))), (e 0, .inr (8, [.ref h, .ref (ew 0), .ref (eg 0), .int (zd 0)])), (ew 0, .inl (V.2.2.1, 7, .inl (zw 0))), (eg 0, .inl (V.2.2.1, 7, .inl (zg 0))), (e 1, .inr (8, [.ref h, .ref (ew 1), .ref (eg 1), .int oday])), (ew 1, .inl (V.2.2.1, 7, .inl ow)), (eg 1, .inl (V.2.2.1, 7, .inl og)), (o, .inr (8, [.ref oh, .ref ow_, .ref og_, .int oday])), (ow_, .inl (V.2.2.1, 7, .inl ow)), (og_, .inl (V.2.2.1, 7, .inl og))] := hw_14.symm
    clear hw_14; subst hw_14x
    refine g_aload_n X dX7_add_60 rfl ?_
    refine g_dup X dX7_add_61 rfl ?_
    refine g_get X uwX7 0 rfl rfl 1 (by decide) kl_X7_7 rfl rfl gwX7 dX7_add_62 ?_
    refine g_iconst X (1) dX7_add_65 (by decide) ?_
    refine g_iadd X dX7_add_66 ?_
    refine g_toe (x' := 2) (by decide) ?_
    refine g_put X uwX7 tyX7 tyX7_ok nmX7 0 rfl rfl 1 (by decide) kl_X7_7 rfl rfl rfl rfl (Nat.le_of_ble_eq_true rfl) gwX7 (ws' := [(p, .inr (7, [.ref pl, .int 2])), (pl, .inl (V.2.2.2, 2, .inr (.inr (.inr (.inr (shf e)))))), (e 0, .inr (8, [.ref h, .ref (ew 0), .ref (eg 0), .int (zd 0)])), (ew 0, .inl (V.2.2.1, 7, .inl (zw 0))), (eg 0, .inl (V.2.2.1, 7, .inl (zg 0))), (e 1, .inr (8, [.ref h, .ref (ew 1), .ref (eg 1), .int oday])), (ew 1, .inl (V.2.2.1, 7, .inl ow)), (eg 1, .inl (V.2.2.1, 7, .inl og)), (o, .inr (8, [.ref oh, .ref ow_, .ref og_, .int oday])), (ow_, .inl (V.2.2.1, 7, .inl ow)), (og_, .inl (V.2.2.1, 7, .inl og))]) rfl dX7_add_67 ?_
    exact g_vret X E dX7_add_70 () trivial rfl

set_option maxHeartbeats 4000000 in
set_option maxRecDepth 100000 in
theorem c_X7_takeLatest8 (V : gV) (p : Nat) (pl : Nat) (e : Nat → Nat) (ew : Nat → Nat) (eg : Nat → Nat) (zw : Nat → Nat → Int32) (zg : Nat → Nat → Int32) (zd : Nat → Int32) (h : Nat) (q : Nat) (o : Nat) (ow_ : Nat) (og_ : Nat) (oh : Nat) (oday : Int32) (ow : Nat → Int32) (og : Nat → Int32) (hq : 1 ≤ q ∧ q ≤ 8) : Kv V yX7_takeLatest cX7_takeLatest 3 ({ frames := 2, cells := 0, slots := 0, locals := 44 }) [.ref p, .ref o] [(p, .inr (7, [.ref pl, .int (nI q)])), (pl, .inl (V.2.2.2, 8, .inr (.inr (.inr (.inr (shf e)))))), (e 0, .inr (8, [.ref h, .ref (ew 0), .ref (eg 0), .int (zd 0)])), (ew 0, .inl (V.2.2.1, 7, .inl (zw 0))), (eg 0, .inl (V.2.2.1, 7, .inl (zg 0))), (e 1, .inr (8, [.ref h, .ref (ew 1), .ref (eg 1), .int (zd 1)])), (ew 1, .inl (V.2.2.1, 7, .inl (zw 1))), (eg 1, .inl (V.2.2.1, 7, .inl (zg 1))), (e 2, .inr (8, [.ref h, .ref (ew 2), .ref (eg 2), .int (zd 2)])), (ew 2, .inl (V.2.2.1, 7, .inl (zw 2))), (eg 2, .inl (V.2.2.1, 7, .inl (zg 2))), (e 3, .inr (8, [.ref h, .ref (ew 3), .ref (eg 3), .int (zd 3)])), (ew 3, .inl (V.2.2.1, 7, .inl (zw 3))), (eg 3, .inl (V.2.2.1, 7, .inl (zg 3))), (e 4, .inr (8, [.ref h, .ref (ew 4), .ref (eg 4), .int (zd 4)])), (ew 4, .inl (V.2.2.1, 7, .inl (zw 4))), (eg 4, .inl (V.2.2.1, 7, .inl (zg 4))), (e 5, .inr (8, [.ref h, .ref (ew 5), .ref (eg 5), .int (zd 5)])), (ew 5, .inl (V.2.2.1, 7, .inl (zw 5))), (eg 5, .inl (V.2.2.1, 7, .inl (zg 5))), (e 6, .inr (8, [.ref h, .ref (ew 6), .ref (eg 6), .int (zd 6)])), (ew 6, .inl (V.2.2.1, 7, .inl (zw 6))), (eg 6, .inl (V.2.2.1, 7, .inl (zg 6))), (e 7, .inr (8, [.ref h, .ref (ew 7), .ref (eg 7), .int (zd 7)])), (ew 7, .inl (V.2.2.1, 7, .inl (zw 7))), (eg 7, .inl (V.2.2.1, 7, .inl (zg 7))), (o, .inr (8, [.ref oh, .ref ow_, .ref og_, .int oday])), (ow_, .inl (V.2.2.1, 7, .inl ow)), (og_, .inl (V.2.2.1, 7, .inl og))] (fun u : Unit => True) (fun u => [(p, .inr (7, [.ref pl, .int (nI (q - 1))])), (pl, .inl (V.2.2.2, 8, .inr (.inr (.inr (.inr (shf e)))))), (e 0, .inr (8, [.ref h, .ref (ew 0), .ref (eg 0), .int (zd 0)])), (ew 0, .inl (V.2.2.1, 7, .inl (zw 0))), (eg 0, .inl (V.2.2.1, 7, .inl (zg 0))), (e 1, .inr (8, [.ref h, .ref (ew 1), .ref (eg 1), .int (zd 1)])), (ew 1, .inl (V.2.2.1, 7, .inl (zw 1))), (eg 1, .inl (V.2.2.1, 7, .inl (zg 1))), (e 2, .inr (8, [.ref h, .ref (ew 2), .ref (eg 2), .int (zd 2)])), (ew 2, .inl (V.2.2.1, 7, .inl (zw 2))), (eg 2, .inl (V.2.2.1, 7, .inl (zg 2))), (e 3, .inr (8, [.ref h, .ref (ew 3), .ref (eg 3), .int (zd 3)])), (ew 3, .inl (V.2.2.1, 7, .inl (zw 3))), (eg 3, .inl (V.2.2.1, 7, .inl (zg 3))), (e 4, .inr (8, [.ref h, .ref (ew 4), .ref (eg 4), .int (zd 4)])), (ew 4, .inl (V.2.2.1, 7, .inl (zw 4))), (eg 4, .inl (V.2.2.1, 7, .inl (zg 4))), (e 5, .inr (8, [.ref h, .ref (ew 5), .ref (eg 5), .int (zd 5)])), (ew 5, .inl (V.2.2.1, 7, .inl (zw 5))), (eg 5, .inl (V.2.2.1, 7, .inl (zg 5))), (e 6, .inr (8, [.ref h, .ref (ew 6), .ref (eg 6), .int (zd 6)])), (ew 6, .inl (V.2.2.1, 7, .inl (zw 6))), (eg 6, .inl (V.2.2.1, 7, .inl (zg 6))), (e 7, .inr (8, [.ref h, .ref (ew 7), .ref (eg 7), .int (zd 7)])), (ew 7, .inl (V.2.2.1, 7, .inl (zw 7))), (eg 7, .inl (V.2.2.1, 7, .inl (zg 7))), (o, .inr (8, [.ref oh, .ref ow_, .ref og_, .int (zd (q - 1))])), (ow_, .inl (V.2.2.1, 7, .inl (zw (q - 1)))), (og_, .inl (V.2.2.1, 7, .inl (zg (q - 1))))]) := by
  refine Kv.of [some (.ref p), some (.ref o), none] (by decide) (Nat.le_of_ble_eq_true rfl) rfl rfl ?_
  intro Z X E
  have X : gX V Z RX7 cX7_takeLatest 3 ({ frames := 2, cells := 0, slots := 0, locals := 44 }) := X
  obtain rfl | rfl | rfl | rfl | rfl | rfl | rfl | rfl : q = 1 ∨ q = 2 ∨ q = 3 ∨ q = 4 ∨ q = 5 ∨ q = 6 ∨ q = 7 ∨ q = 8 := by omega
  · refine g_aload_n X dX7_takeLatest_0 rfl ?_
    refine g_get X uwX7 0 rfl rfl 1 (by decide) kl_X7_7 rfl rfl gwX7 dX7_takeLatest_1 ?_
    refine g_iconst X (1) dX7_takeLatest_4 (by decide) ?_
    refine g_isub X dX7_takeLatest_5 ?_
    refine g_toe (x' := 0) (by decide) ?_
    refine g_istore_n X (L' := [some (.ref p), some (.ref o), some (.int 0)]) dX7_takeLatest_6 (by decide) rfl rfl ?_
    refine g_iload_n X dX7_takeLatest_7 rfl ?_
    refine g_if_lt X 44 dX7_takeLatest_8 (by decide) (fun c8_1 => absurd c8_1 (by decide)) (fun c8_1 => ?_)
    refine g_iload_n X dX7_takeLatest_11 rfl ?_
    refine g_aload_n X dX7_takeLatest_12 rfl ?_
    refine g_get X uwX7 0 rfl rfl 0 (by decide) kl_X7_21 rfl rfl gwX7 dX7_takeLatest_13 ?_
    refine g_alenq X 1 (8) rfl rfl dX7_takeLatest_16 ?_
    refine g_icmp_ge X 44 dX7_takeLatest_17 (by decide) (fun c17_2 => absurd c17_2 (by decide)) (fun c17_2 => ?_)
    refine g_aload_n X dX7_takeLatest_20 rfl ?_
    refine g_get X uwX7 0 rfl rfl 0 (by decide) kl_X7_21 rfl rfl gwX7 dX7_takeLatest_21 ?_
    refine g_iload_n X dX7_takeLatest_24 rfl ?_
    refine g_aald' X 1 (.ref (e 0)) rfl (i := 0) rfl (by decide) (by decide) rfl dX7_takeLatest_25 ?_
    refine g_ifnull X dX7_takeLatest_26 ?_
    refine g_aload_n X dX7_takeLatest_29 rfl ?_
    refine g_aload_n X dX7_takeLatest_30 rfl ?_
    refine g_get X uwX7 0 rfl rfl 0 (by decide) kl_X7_21 rfl rfl gwX7 dX7_takeLatest_31 ?_
    refine g_iload_n X dX7_takeLatest_34 rfl ?_
    refine g_aald' X 1 (.ref (e 0)) rfl (i := 0) rfl (by decide) (by decide) rfl dX7_takeLatest_35 ?_
    refine g_callVv X (c_X8_takeFrom V o ow_ og_ oday ow og oh (e 0) (ew 0) (eg 0) h (zd 0) (zw 0) (zg 0)) mo_X8_takeFrom kl_X7_31 [26, 27, 28, 2, 3, 4] [0, 0, 4, 5, 6, 0, 0, 0, 0, 0, 0, 0, 0, 0, 0, 0, 0, 0, 0, 0, 0, 0, 0, 0, 0, 0, 1, 2, 3] rfl (by decide +kernel) rfl rfl (fun _ => Nat.le_of_ble_eq_true rfl) 26 8 rfl rfl (As := [.ref (e 0)]) (st := []) (cs' := (0, 0)) rfl rfl rfl rfl dX7_takeLatest_36 (fun u_3 hp_4 ws_6 hw_5 => ?_)
    have hw_5x : ws_6 = [(p, .inr (7, [.ref pl, .int (nI 1)])), (pl, .inl (V.2.2.2, 8, .inr (.inr (.inr (.inr (shf e)))))), (e 0, .inr (8, [.ref h, .ref (ew 0), .ref (eg 0), .int (zd 0)])), (ew 0, .inl (V.2.2.1, 7, .inl (zw 0))), (eg 0, .inl (V.2.2.1, 7, .inl (zg 0))), (e 1, .inr (8, [.ref h, .ref (ew 1), .ref (eg 1), .int (zd 1)])), (ew 1, .inl (V.2.2.1, 7, .inl (zw 1))), (eg 1, .inl (V.2.2.1, 7, .inl (zg 1))), (e 2, .inr (8, [.ref h, .ref (ew 2), .ref (eg 2), .int (zd 2)])), (ew 2, .inl (V.2.2.1, 7, .inl (zw 2))), (eg 2, .inl (V.2.2.1, 7, .inl (zg 2))), (e 3, .inr (8, [.ref h, .ref (ew 3), .ref (eg 3), .int (zd 3)])), (ew 3, .inl (V.2.2.1, 7, .inl (zw 3))), (eg 3, .inl (V.2.2.1, 7, .inl (zg 3))), (e 4, .inr (8, [.ref h, .ref (ew 4), .ref (eg 4), .int (zd 4)])), (ew 4, .inl (V.2.2.1, 7, .inl (zw 4))), (eg 4, .inl (V.2.2.1, 7, .inl (zg 4))), (e 5, .inr (8, [.ref h, .ref (ew 5), .ref (eg 5), .int (zd 5)])), (ew 5, .inl (V.2.2.1, 7, .inl (zw 5))), (eg 5, .inl (V.2.2.1, 7, .inl (zg 5))), (e 6, .inr (8, [.ref h, .ref (ew 6), .ref (eg 6), .int (zd 6)])), (ew 6, .inl (V.2.2.1, 7, .inl (zw 6))), (eg 6, .inl (V.2.2.1, 7, .inl (zg 6))), (e 7, .inr (8, [.ref h, .ref (ew 7), .ref (eg 7), .int (zd 7)])), (ew 7, .inl (V.2.2.1, 7, .inl (zw 7))), (eg 7, .inl (V.2.2.1, 7, .inl (zg 7))), (o, .inr (8, [.ref oh, .ref ow_, .ref og_, .int (zd 0)])), (ow_, .inl (V.2.2.1, 7, .inl (zw 0))), (og_, .inl (V.2.2.1, 7, .inl (zg 0)))] := hw_5.symm
    clear hw_5; subst hw_5x
    refine g_aload_n X dX7_takeLatest_39 rfl ?_
    refine g_iload_n X dX7_takeLatest_40 rfl ?_
    refine g_put X uwX7 tyX7 tyX7_ok nmX7 0 rfl rfl 1 (by decide) kl_X7_7 rfl rfl rfl rfl (Nat.le_of_ble_eq_true rfl) gwX7 (ws' := [(p, .inr (7, [.ref pl, .int 0])), (pl, .inl (V.2.2.2, 8, .inr (.inr (.inr (.inr (shf e)))))), (e 0, .inr (8, [.ref h, .ref (ew 0), .ref (eg 0), .int (zd 0)])), (ew 0, .inl (V.2.2.1, 7, .inl (zw 0))), (eg 0, .inl (V.2.2.1, 7, .inl (zg 0))), (e 1, .inr (8, [.ref h, .ref (ew 1), .ref (eg 1), .int (zd 1)])), (ew 1, .inl (V.2.2.1, 7, .inl (zw 1))), (eg 1, .inl (V.2.2.1, 7, .inl (zg 1))), (e 2, .inr (8, [.ref h, .ref (ew 2), .ref (eg 2), .int (zd 2)])), (ew 2, .inl (V.2.2.1, 7, .inl (zw 2))), (eg 2, .inl (V.2.2.1, 7, .inl (zg 2))), (e 3, .inr (8, [.ref h, .ref (ew 3), .ref (eg 3), .int (zd 3)])), (ew 3, .inl (V.2.2.1, 7, .inl (zw 3))), (eg 3, .inl (V.2.2.1, 7, .inl (zg 3))), (e 4, .inr (8, [.ref h, .ref (ew 4), .ref (eg 4), .int (zd 4)])), (ew 4, .inl (V.2.2.1, 7, .inl (zw 4))), (eg 4, .inl (V.2.2.1, 7, .inl (zg 4))), (e 5, .inr (8, [.ref h, .ref (ew 5), .ref (eg 5), .int (zd 5)])), (ew 5, .inl (V.2.2.1, 7, .inl (zw 5))), (eg 5, .inl (V.2.2.1, 7, .inl (zg 5))), (e 6, .inr (8, [.ref h, .ref (ew 6), .ref (eg 6), .int (zd 6)])), (ew 6, .inl (V.2.2.1, 7, .inl (zw 6))), (eg 6, .inl (V.2.2.1, 7, .inl (zg 6))), (e 7, .inr (8, [.ref h, .ref (ew 7), .ref (eg 7), .int (zd 7)])), (ew 7, .inl (V.2.2.1, 7, .inl (zw 7))), (eg 7, .inl (V.2.2.1, 7, .inl (zg 7))), (o, .inr (8, [.ref oh, .ref ow_, .ref og_, .int (zd 0)])), (ow_, .inl (V.2.2.1, 7, .inl (zw 0))), (og_, .inl (V.2.2.1, 7, .inl (zg 0)))]) rfl dX7_takeLatest_41 ?_
    exact g_vret X E dX7_takeLatest_44 () trivial rfl
  · refine g_aload_n X dX7_takeLatest_0 rfl ?_
    refine g_get X uwX7 0 rfl rfl 1 (by decide) kl_X7_7 rfl rfl gwX7 dX7_takeLatest_1 ?_
    refine g_iconst X (1) dX7_takeLatest_4 (by decide) ?_
    refine g_isub X dX7_takeLatest_5 ?_
    refine g_toe (x' := 1) (by decide) ?_
    refine g_istore_n X (L' := [some (.ref p), some (.ref o), some (.int 1)]) dX7_takeLatest_6 (by decide) rfl rfl ?_
    refine g_iload_n X dX7_takeLatest_7 rfl ?_
    refine g_if_lt X 44 dX7_takeLatest_8 (by decide) (fun c8_8 => absurd c8_8 (by decide)) (fun c8_8 => ?_)
    refine g_iload_n X dX7_takeLatest_11 rfl ?_
    refine g_aload_n X dX7_takeLatest_12 rfl ?_
    refine g_get X uwX7 0 rfl rfl 0 (by decide) kl_X7_21 rfl rfl gwX7 dX7_takeLatest_13 ?_
    refine g_alenq X 1 (8) rfl rfl dX7_takeLatest_16 ?_
    refine g_icmp_ge X 44 dX7_takeLatest_17 (by decide) (fun c17_9 => absurd c17_9 (by decide)) (fun c17_9 => ?_)
    refine g_aload_n X dX7_takeLatest_20 rfl ?_
    refine g_get X uwX7 0 rfl rfl 0 (by decide) kl_X7_21 rfl rfl gwX7 dX7_takeLatest_21 ?_
    refine g_iload_n X dX7_takeLatest_24 rfl ?_
    refine g_aald' X 1 (.ref (e 1)) rfl (i := 1) rfl (by decide) (by decide) rfl dX7_takeLatest_25 ?_
    refine g_ifnull X dX7_takeLatest_26 ?_
    refine g_aload_n X dX7_takeLatest_29 rfl ?_
    refine g_aload_n X dX7_takeLatest_30 rfl ?_
    refine g_get X uwX7 0 rfl rfl 0 (by decide) kl_X7_21 rfl rfl gwX7 dX7_takeLatest_31 ?_
    refine g_iload_n X dX7_takeLatest_34 rfl ?_
    refine g_aald' X 1 (.ref (e 1)) rfl (i := 1) rfl (by decide) (by decide) rfl dX7_takeLatest_35 ?_
    refine g_callVv X (c_X8_takeFrom V o ow_ og_ oday ow og oh (e 1) (ew 1) (eg 1) h (zd 1) (zw 1) (zg 1)) mo_X8_takeFrom kl_X7_31 [26, 27, 28, 5, 6, 7] [0, 0, 0, 0, 0, 4, 5, 6, 0, 0, 0, 0, 0, 0, 0, 0, 0, 0, 0, 0, 0, 0, 0, 0, 0, 0, 1, 2, 3] rfl (by decide +kernel) rfl rfl (fun _ => Nat.le_of_ble_eq_true rfl) 26 8 rfl rfl (As := [.ref (e 1)]) (st := []) (cs' := (0, 0)) rfl rfl rfl rfl dX7_takeLatest_36 (fun u_10 hp_11 ws_13 hw_12 => ?_)
    have hw_12x : ws_13 = [(p, .inr (7, [.ref pl, .int (nI 2)])), (pl, .inl (V.2.2.2, 8, .inr (.inr (.inr (.inr (shf e)))))), (e 0, .inr (8, [.ref h, .ref (ew 0), .ref (eg 0), .int (zd 0)])), (ew 0, .inl (V.2.2.1, 7, .inl (zw 0))), (eg 0, .inl (V.2.2.1, 7, .inl (zg 0))), (e 1, .inr (8, [.ref h, .ref (ew 1), .ref (eg 1), .int (zd 1)])), (ew 1, .inl (V.2.2.1, 7, .inl (zw 1))), (eg 1, .inl (V.2.2.1, 7, .inl (zg 1))), (e 2, .inr (8, [.ref h, .ref (ew 2), .ref (eg 2), .int (zd 2)])), (ew 2, .inl (V.2.2.1, 7, .inl (zw 2))), (eg 2, .inl (V.2.2.1, 7, .inl (zg 2))), (e 3, .inr (8, [.ref h, .ref (ew 3), .ref (eg 3), .int (zd 3)])), (ew 3, .inl (V.2.2.1, 7, .inl (zw 3))), (eg 3, .inl (V.2.2.1, 7, .inl (zg 3))), (e 4, .inr (8, [.ref h, .ref (ew 4), .ref (eg 4), .int (zd 4)])), (ew 4, .inl (V.2.2.1, 7, .inl (zw 4))), (eg 4, .inl (V.2.2.1, 7, .inl (zg 4))), (e 5, .inr (8, [.ref h, .ref (ew 5), .ref (eg 5), .int (zd 5)])), (ew 5, .inl (V.2.2.1, 7, .inl (zw 5))), (eg 5, .inl (V.2.2.1, 7, .inl (zg 5))), (e 6, .inr (8, [.ref h, .ref (ew 6), .ref (eg 6), .int (zd 6)])), (ew 6, .inl (V.2.2.1, 7, .inl (zw 6))), (eg 6, .inl (V.2.2.1, 7, .inl (zg 6))), (e 7, .inr (8, [.ref h, .ref (ew 7), .ref (eg 7), .int (zd 7)])), (ew 7, .inl (V.2.2.1, 7, .inl (zw 7))), (eg 7, .inl (V.2.2.1, 7, .inl (zg 7))), (o, .inr (8, [.ref oh, .ref ow_, .ref og_, .int (zd 1)])), (ow_, .inl (V.2.2.1, 7, .inl (zw 1))), (og_, .inl (V.2.2.1, 7, .inl (zg 1)))] := hw_12.symm
    clear hw_12; subst hw_12x
    refine g_aload_n X dX7_takeLatest_39 rfl ?_
    refine g_iload_n X dX7_takeLatest_40 rfl ?_
    refine g_put X uwX7 tyX7 tyX7_ok nmX7 0 rfl rfl 1 (by decide) kl_X7_7 rfl rfl rfl rfl (Nat.le_of_ble_eq_true rfl) gwX7 (ws' := [(p, .inr (7, [.ref pl, .int 1])), (pl, .inl (V.2.2.2, 8, .inr (.inr (.inr (.inr (shf e)))))), (e 0, .inr (8, [.ref h, .ref (ew 0), .ref (eg 0), .int (zd 0)])), (ew 0, .inl (V.2.2.1, 7, .inl (zw 0))), (eg 0, .inl (V.2.2.1, 7, .inl (zg 0))), (e 1, .inr (8, [.ref h, .ref (ew 1), .ref (eg 1), .int (zd 1)])), (ew 1, .inl (V.2.2.1, 7, .inl (zw 1))), (eg 1, .inl (V.2.2.1, 7, .inl (zg 1))), (e 2, .inr (8, [.ref h, .ref (ew 2), .ref (eg 2), .int (zd 2)])), (ew 2, .inl (V.2.2.1, 7, .inl (zw 2))), (eg 2, .inl (V.2.2.1, 7, .inl (zg 2))), (e 3, .inr (8, [.ref h, .ref (ew 3), .ref (eg 3), .int (zd 3)])), (ew 3, .inl (V.2.2.1, 7, .inl (zw 3))), (eg 3, .inl (V.2.2.1, 7, .inl (zg 3))), (e 4, .inr (8, [.ref h, .ref (ew 4), .ref (eg 4), .int (zd 4)])), (ew 4, .inl (V.2.2.1, 7, .inl (zw 4))), (eg 4, .inl (V.2.2.1, 7, .inl (zg 4))), (e 5, .inr (8, [.ref h, .ref (ew 5), .ref (eg 5), .int (zd 5)])), (ew 5, .inl (V.2.2.1, 7, .inl (zw 5))), (eg 5, .inl (V.2.2.1, 7, .inl (zg 5))), (e 6, .inr (8, [.ref h, .ref (ew 6), .ref (eg 6), .int (zd 6)])), (ew 6, .inl (V.2.2.1, 7, .inl (zw 6))), (eg 6, .inl (V.2.2.1, 7, .inl (zg 6))), (e 7, .inr (8, [.ref h, .ref (ew 7), .ref (eg 7), .int (zd 7)])), (ew 7, .inl (V.2.2.1, 7, .inl (zw 7))), (eg 7, .inl (V.2.2.1, 7, .inl (zg 7))), (o, .inr (8, [.ref oh, .ref ow_, .ref og_, .int (zd 1)])), (ow_, .inl (V.2.2.1, 7, .inl (zw 1))), (og_, .inl (V.2.2.1, 7, .inl (zg 1)))]) rfl dX7_takeLatest_41 ?_
    exact g_vret X E dX7_takeLatest_44 () trivial rfl
  · refine g_aload_n X dX7_takeLatest_0 rfl ?_
    refine g_get X uwX7 0 rfl rfl 1 (by decide) kl_X7_7 rfl rfl gwX7 dX7_takeLatest_1 ?_
    refine g_iconst X (1) dX7_takeLatest_4 (by decide) ?_
    refine g_isub X dX7_takeLatest_5 ?_
    refine g_toe (x' := 2) (by decide) ?_
    refine g_istore_n X (L' := [some (.ref p), some (.ref o), some (.int 2)]) dX7_takeLatest_6 (by decide) rfl rfl ?_
    refine g_iload_n X dX7_takeLatest_7 rfl ?_
    refine g_if_lt X 44 dX7_takeLatest_8 (by decide) (fun c8_15 => absurd c8_15 (by decide)) (fun c8_15 => ?_)
    refine g_iload_n X dX7_takeLatest_11 rfl ?_
    refine g_aload_n X dX7_takeLatest_12 rfl ?_
    refine g_get X uwX7 0 rfl rfl 0 (by decide) kl_X7_21 rfl rfl gwX7 dX7_takeLatest_13 ?_
    refine g_alenq X 1 (8) rfl rfl dX7_takeLatest_16 ?_
    refine g_icmp_ge X 44 dX7_takeLatest_17 (by decide) (fun c17_16 => absurd c17_16 (by decide)) (fun c17_16 => ?_)
    refine g_aload_n X dX7_takeLatest_20 rfl ?_
    refine g_get X uwX7 0 rfl rfl 0 (by decide) kl_X7_21 rfl rfl gwX7 dX7_takeLatest_21 ?_
    refine g_iload_n X dX7_takeLatest_24 rfl ?_
    refine g_aald' X 1 (.ref (e 2)) rfl (i := 2) rfl (by decide) (by decide) rfl dX7_takeLatest_25 ?_
    refine g_ifnull X dX7_takeLatest_26 ?_
    refine g_aload_n X dX7_takeLatest_29 rfl ?_
    refine g_aload_n X dX7_takeLatest_30 rfl ?_
    refine g_get X uwX7 0 rfl rfl 0 (by decide) kl_X7_21 rfl rfl gwX7 dX7_takeLatest_31 ?_
    refine g_iload_n X dX7_takeLatest_34 rfl ?_
    refine g_aald' X 1 (.ref (e 2)) rfl (i := 2) rfl (by decide) (by decide) rfl dX7_takeLatest_35 ?_
    refine g_callVv X (c_X8_takeFrom V o ow_ og_ oday ow og oh (e 2) (ew 2) (eg 2) h (zd 2) (zw 2) (zg 2)) mo_X8_takeFrom kl_X7_31 [26, 27, 28, 8, 9, 10] [0, 0, 0, 0, 0, 0, 0, 0, 4, 5, 6, 0, 0, 0, 0, 0, 0, 0, 0, 0, 0, 0, 0, 0, 0, 0, 1, 2, 3] rfl (by decide +kernel) rfl rfl (fun _ => Nat.le_of_ble_eq_true rfl) 26 8 rfl rfl (As := [.ref (e 2)]) (st := []) (cs' := (0, 0)) rfl rfl rfl rfl dX7_takeLatest_36 (fun u_17 hp_18 ws_20 hw_19 => ?_)
    have hw_19x : ws_20 = [(p, .inr (7, [.ref pl, .int (nI 3)])), (pl, .inl (V.2.2.2, 8, .inr (.inr (.inr (.inr (shf e)))))), (e 0, .inr (8, [.ref h, .ref (ew 0), .ref (eg 0), .int (zd 0)])), (ew 0, .inl (V.2.2.1, 7, .inl (zw 0))), (eg 0, .inl (V.2.2.1, 7, .inl (zg 0))), (e 1, .inr (8, [.ref h, .ref (ew 1), .ref (eg 1), .int (zd 1)])), (ew 1, .inl (V.2.2.1, 7, .inl (zw 1))), (eg 1, .inl (V.2.2.1, 7, .inl (zg 1))), (e 2, .inr (8, [.ref h, .ref (ew 2), .ref (eg 2), .int (zd 2)])), (ew 2, .inl (V.2.2.1, 7, .inl (zw 2))), (eg 2, .inl (V.2.2.1, 7, .inl (zg 2))), (e 3, .inr (8, [.ref h, .ref (ew 3), .ref (eg 3), .int (zd 3)])), (ew 3, .inl (V.2.2.1, 7, .inl (zw 3))), (eg 3, .inl (V.2.2.1, 7, .inl (zg 3))), (e 4, .inr (8, [.ref h, .ref (ew 4), .ref (eg 4), .int (zd 4)])), (ew 4, .inl (V.2.2.1, 7, .inl (zw 4))), (eg 4, .inl (V.2.2.1, 7, .inl (zg 4))), (e 5, .inr (8, [.ref h, .ref (ew 5), .ref (eg 5), .int (zd 5)])), (ew 5, .inl (V.2.2.1, 7, .inl (zw 5))), (eg 5, .inl (V.2.2.1, 7, .inl (zg 5))), (e 6, .inr (8, [.ref h, .ref (ew 6), .ref (eg 6), .int (zd 6)])), (ew 6, .inl (V.2.2.1, 7, .inl (zw 6))), (eg 6, .inl (V.2.2.1, 7, .inl (zg 6))), (e 7, .inr (8, [.ref h, .ref (ew 7), .ref (eg 7), .int (zd 7)])), (ew 7, .inl (V.2.2.1, 7, .inl (zw 7))), (eg 7, .inl (V.2.2.1, 7, .inl (zg 7))), (o, .inr (8, [.ref oh, .ref ow_, .ref og_, .int (zd 2)])), (ow_, .inl (V.2.2.1, 7, .inl (zw 2))), (og_, .inl (V.2.2.1, 7, .inl (zg 2)))] := hw_19.symm
    clear hw_19; subst hw_19x
    refine g_aload_n X dX7_takeLatest_39 rfl ?_
    refine g_iload_n X dX7_takeLatest_40 rfl ?_
    refine g_put X uwX7 tyX7 tyX7_ok nmX7 0 rfl rfl 1 (by decide) kl_X7_7 rfl rfl rfl rfl (Nat.le_of_ble_eq_true rfl) gwX7 (ws' := [(p, .inr (7, [.ref pl, .int 2])), (pl, .inl (V.2.2.2, 8, .inr (.inr (.inr (.inr (shf e)))))), (e 0, .inr (8, [.ref h, .ref (ew 0), .ref (eg 0), .int (zd 0)])), (ew 0, .inl (V.2.2.1, 7, .inl (zw 0))), (eg 0, .inl (V.2.2.1, 7, .inl (zg 0))), (e 1, .inr (8, [.ref h, .ref (ew 1), .ref (eg 1), .int (zd 1)])), (ew 1, .inl (V.2.2.1, 7, .inl (zw 1))), (eg 1, .inl (V.2.2.1, 7, .inl (zg 1))), (e 2, .inr (8, [.ref h, .ref (ew 2), .ref (eg 2), .int (zd 2)])), (ew 2, .inl (V.2.2.1, 7, .inl (zw 2))), (eg 2, .inl (V.2.2.1, 7, .inl (zg 2))), (e 3, .inr (8, [.ref h, .ref (ew 3), .ref (eg 3), .int (zd 3)])), (ew 3, .inl (V.2.2.1, 7, .inl (zw 3))), (eg 3, .inl (V.2.2.1, 7, .inl (zg 3))), (e 4, .inr (8, [.ref h, .ref (ew 4), .ref (eg 4), .int (zd 4)])), (ew 4, .inl (V.2.2.1, 7, .inl (zw 4))), (eg 4, .inl (V.2.2.1, 7, .inl (zg 4))), (e 5, .inr (8, [.ref h, .ref (ew 5), .ref (eg 5), .int (zd 5)])), (ew 5, .inl (V.2.2.1, 7, .inl (zw 5))), (eg 5, .inl (V.2.2.1, 7, .inl (zg 5))), (e 6, .inr (8, [.ref h, .ref (ew 6), .ref (eg 6), .int (zd 6)])), (ew 6, .inl (V.2.2.1, 7, .inl (zw 6))), (eg 6, .inl (V.2.2.1, 7, .inl (zg 6))), (e 7, .inr (8, [.ref h, .ref (ew 7), .ref (eg 7), .int (zd 7)])), (ew 7, .inl (V.2.2.1, 7, .inl (zw 7))), (eg 7, .inl (V.2.2.1, 7, .inl (zg 7))), (o, .inr (8, [.ref oh, .ref ow_, .ref og_, .int (zd 2)])), (ow_, .inl (V.2.2.1, 7, .inl (zw 2))), (og_, .inl (V.2.2.1, 7, .inl (zg 2)))]) rfl dX7_takeLatest_41 ?_
    exact g_vret X E dX7_takeLatest_44 () trivial rfl
  · refine g_aload_n X dX7_takeLatest_0 rfl ?_
    refine g_get X uwX7 0 rfl rfl 1 (by decide) kl_X7_7 rfl rfl gwX7 dX7_takeLatest_1 ?_
    refine g_iconst X (1) dX7_takeLatest_4 (by decide) ?_
    refine g_isub X dX7_takeLatest_5 ?_
    refine g_toe (x' := 3) (by decide) ?_
    refine g_istore_n X (L' := [some (.ref p), some (.ref o), some (.int 3)]) dX7_takeLatest_6 (by decide) rfl rfl ?_
    refine g_iload_n X dX7_takeLatest_7 rfl ?_
    refine g_if_lt X 44 dX7_takeLatest_8 (by decide) (fun c8_22 => absurd c8_22 (by decide)) (fun c8_22 => ?_)
    refine g_iload_n X dX7_takeLatest_11 rfl ?_
    refine g_aload_n X dX7_takeLatest_12 rfl ?_
    refine g_get X uwX7 0 rfl rfl 0 (by decide) kl_X7_21 rfl rfl gwX7 dX7_takeLatest_13 ?_
    refine g_alenq X 1 (8) rfl rfl dX7_takeLatest_16 ?_
    refine g_icmp_ge X 44 dX7_takeLatest_17 (by decide) (fun c17_23 => absurd c17_23 (by decide)) (fun c17_23 => ?_)
    refine g_aload_n X dX7_takeLatest_20 rfl ?_
    refine g_get X uwX7 0 rfl rfl 0 (by decide) kl_X7_21 rfl rfl gwX7 dX7_takeLatest_21 ?_
    refine g_iload_n X dX7_takeLatest_24 rfl ?_
    refine g_aald' X 1 (.ref (e 3)) rfl (i := 3) rfl (by decide) (by decide) rfl dX7_takeLatest_25 ?_
    refine g_ifnull X dX7_takeLatest_26 ?_
    refine g_aload_n X dX7_takeLatest_29 rfl ?_
    refine g_aload_n X dX7_takeLatest_30 rfl ?_
    refine g_get X uwX7 0 rfl rfl 0 (by decide) kl_X7_21 rfl rfl gwX7 dX7_takeLatest_31 ?_
    refine g_iload_n X dX7_takeLatest_34 rfl ?_
    refine g_aald' X 1 (.ref (e 3)) rfl (i := 3) rfl (by decide) (by decide) rfl dX7_takeLatest_35 ?_
    refine g_callVv X (c_X8_takeFrom V o ow_ og_ oday ow og oh (e 3) (ew 3) (eg 3) h (zd 3) (zw 3) (zg 3)) mo_X8_takeFrom kl_X7_31 [26, 27, 28, 11, 12, 13] [0, 0, 0, 0, 0, 0, 0, 0, 0, 0, 0, 4, 5, 6, 0, 0, 0, 0, 0, 0, 0, 0, 0, 0, 0, 0, 1, 2, 3] rfl (by decide +kernel) rfl rfl (fun _ => Nat.le_of_ble_eq_true rfl) 26 8 rfl rfl (As := [.ref (e 3)]) (st := []) (cs' := (0, 0)) rfl rfl rfl rfl dX7_takeLatest_36 (fun u_24 hp_25 ws_27 hw_26 => ?_)
    have hw_26x : ws_27 = [(p, .inr (7, [.ref pl, .int (nI 4)])), (pl, .inl (V.2.2.2, 8, .inr (.inr (.inr (.inr (shf e)))))), (e 0, .inr (8, [.ref h, .ref (ew 0), .ref (eg 0), .int (zd 0)])), (ew 0, .inl (V.2.2.1, 7, .inl (zw 0))), (eg 0, .inl (V.2.2.1, 7, .inl (zg 0))), (e 1, .inr (8, [.ref h, .ref (ew 1), .ref (eg 1), .int (zd 1)])), (ew 1, .inl (V.2.2.1, 7, .inl (zw 1))), (eg 1, .inl (V.2.2.1, 7, .inl (zg 1))), (e 2, .inr (8, [.ref h, .ref (ew 2), .ref (eg 2), .int (zd 2)])), (ew 2, .inl (V.2.2.1, 7, .inl (zw 2))), (eg 2, .inl (V.2.2.1, 7, .inl (zg 2))), (e 3, .inr (8, [.ref h, .ref (ew 3), .ref (eg 3), .int (zd 3)])), (ew 3, .inl (V.2.2.1, 7, .inl (zw 3))), (eg 3, .inl (V.2.2.1, 7, .inl (zg 3))), (e 4, .inr (8, [.ref h, .ref (ew 4), .ref (eg 4), .int (zd 4)])), (ew 4, .inl (V.2.2.1, 7, .inl (zw 4))), (eg 4, .inl (V.2.2.1, 7, .inl (zg 4))), (e 5, .inr (8, [.ref h, .ref (ew 5), .ref (eg 5), .int (zd 5)])), (ew 5, .inl (V.2.2.1, 7, .inl (zw 5))), (eg 5, .inl (V.2.2.1, 7, .inl (zg 5))), (e 6, .inr (8, [.ref h, .ref (ew 6), .ref (eg 6), .int (zd 6)])), (ew 6, .inl (V.2.2.1, 7, .inl (zw 6))), (eg 6, .inl (V.2.2.1, 7, .inl (zg 6))), (e 7, .inr (8, [.ref h, .ref (ew 7), .ref (eg 7), .int (zd 7)])), (ew 7, .inl (V.2.2.1, 7, .inl (zw 7))), (eg 7, .inl (V.2.2.1, 7, .inl (zg 7))), (o, .inr (8, [.ref oh, .ref ow_, .ref og_, .int (zd 3)])), (ow_, .inl (V.2.2.1, 7, .inl (zw 3))), (og_, .inl (V.2.2.1, 7, .inl (zg 3)))] := hw_26.symm
    clear hw_26; subst hw_26x
    refine g_aload_n X dX7_takeLatest_39 rfl ?_
    refine g_iload_n X dX7_takeLatest_40 rfl ?_
    refine g_put X uwX7 tyX7 tyX7_ok nmX7 0 rfl rfl 1 (by decide) kl_X7_7 rfl rfl rfl rfl (Nat.le_of_ble_eq_true rfl) gwX7 (ws' := [(p, .inr (7, [.ref pl, .int 3])), (pl, .inl (V.2.2.2, 8, .inr (.inr (.inr (.inr (shf e)))))), (e 0, .inr (8, [.ref h, .ref (ew 0), .ref (eg 0), .int (zd 0)])), (ew 0, .inl (V.2.2.1, 7, .inl (zw 0))), (eg 0, .inl (V.2.2.1, 7, .inl (zg 0))), (e 1, .inr (8, [.ref h, .ref (ew 1), .ref (eg 1), .int (zd 1)])), (ew 1, .inl (V.2.2.1, 7, .inl (zw 1))), (eg 1, .inl (V.2.2.1, 7, .inl (zg 1))), (e 2, .inr (8, [.ref h, .ref (ew 2), .ref (eg 2), .int (zd 2)])), (ew 2, .inl (V.2.2.1, 7, .inl (zw 2))), (eg 2, .inl (V.2.2.1, 7, .inl (zg 2))), (e 3, .inr (8, [.ref h, .ref (ew 3), .ref (eg 3), .int (zd 3)])), (ew 3, .inl (V.2.2.1, 7, .inl (zw 3))), (eg 3, .inl (V.2.2.1, 7, .inl (zg 3))), (e 4, .inr (8, [.ref h, .ref (ew 4), .ref (eg 4), .int (zd 4)])), (ew 4, .inl (V.2.2.1, 7, .inl (zw 4))), (eg 4, .inl (V.2.2.1, 7, .inl (zg 4))), (e 5, .inr (8, [.ref h, .ref (ew 5), .ref (eg 5), .int (zd 5)])), (ew 5, .inl (V.2.2.1, 7, .inl (zw 5))), (eg 5, .inl (V.2.2.1, 7, .inl (zg 5))), (e 6, .inr (8, [.ref h, .ref (ew 6), .ref (eg 6), .int (zd 6)])), (ew 6, .inl (V.2.2.1, 7, .inl (zw 6))), (eg 6, .inl (V.2.2.1, 7, .inl (zg 6))), (e 7, .inr (8, [.ref h, .ref (ew 7), .ref (eg 7), .int (zd 7)])), (ew 7, .inl (V.2.2.1, 7, .inl (zw 7))), (eg 7, .inl (V.2.2.1, 7, .inl (zg 7))), (o, .inr (8, [.ref oh, .ref ow_, .ref og_, .int (zd 3)])), (ow_, .inl (V.2.2.1, 7, .inl (zw 3))), (og_, .inl (V.2.2.1, 7, .inl (zg 3)))]) rfl dX7_takeLatest_41 ?_
    exact g_vret X E dX7_takeLatest_44 () trivial rfl
  · refine g_aload_n X dX7_takeLatest_0 rfl ?_
    refine g_get X uwX7 0 rfl rfl 1 (by decide) kl_X7_7 rfl rfl gwX7 dX7_takeLatest_1 ?_
    refine g_iconst X (1) dX7_takeLatest_4 (by decide) ?_
    refine g_isub X dX7_takeLatest_5 ?_
    refine g_toe (x' := 4) (by decide) ?_
    refine g_istore_n X (L' := [some (.ref p), some (.ref o), some (.int 4)]) dX7_takeLatest_6 (by decide) rfl rfl ?_
    refine g_iload_n X dX7_takeLatest_7 rfl ?_
    refine g_if_lt X 44 dX7_takeLatest_8 (by decide) (fun c8_29 => absurd c8_29 (by decide)) (fun c8_29 => ?_)
    refine g_iload_n X dX7_takeLatest_11 rfl ?_
    refine g_aload_n X dX7_takeLatest_12 rfl ?_
    refine g_get X uwX7 0 rfl rfl 0 (by decide) kl_X7_21 rfl rfl gwX7 dX7_takeLatest_13 ?_
    refine g_alenq X 1 (8) rfl rfl dX7_takeLatest_16 ?_
    refine g_icmp_ge X 44 dX7_takeLatest_17 (by decide) (fun c17_30 => absurd c17_30 (by decide)) (fun c17_30 => ?_)
    refine g_aload_n X dX7_takeLatest_20 rfl ?_
    refine g_get X uwX7 0 rfl rfl 0 (by decide) kl_X7_21 rfl rfl gwX7 dX7_takeLatest_21 ?_
    refine g_iload_n X dX7_takeLatest_24 rfl ?_
    refine g_aald' X 1 (.ref (e 4)) rfl (i := 4) rfl (by decide) (by decide) rfl dX7_takeLatest_25 ?_
    refine g_ifnull X dX7_takeLatest_26 ?_
    refine g_aload_n X dX7_takeLatest_29 rfl ?_
    refine g_aload_n X dX7_takeLatest_30 rfl ?_
    refine g_get X uwX7 0 rfl rfl 0 (by decide) kl_X7_21 rfl rfl gwX7 dX7_takeLatest_31 ?_
    refine g_iload_n X dX7_takeLatest_34 rfl ?_
    refine g_aald' X 1 (.ref (e 4)) rfl (i := 4) rfl (by decide) (by decide) rfl dX7_takeLatest_35 ?_
    refine g_callVv X (c_X8_takeFrom V o ow_ og_ oday ow og oh (e 4) (ew 4) (eg 4) h (zd 4) (zw 4) (zg 4)) mo_X8_takeFrom kl_X7_31 [26, 27, 28, 14, 15, 16] [0, 0, 0, 0, 0, 0, 0, 0, 0, 0, 0, 0, 0, 0, 4, 5, 6, 0, 0, 0, 0, 0, 0, 0, 0, 0, 1, 2, 3] rfl (by decide +kernel) rfl rfl (fun _ => Nat.le_of_ble_eq_true rfl) 26 8 rfl rfl (As := [.ref (e 4)]) (st := []) (cs' := (0, 0)) rfl rfl rfl rfl dX7_takeLatest_36 (fun u_31 hp_32 ws_34 hw_33 => ?_)
    have hw_33x : ws_34 = [(p, .inr (7, [.ref pl, .int (nI 5)])), (pl, .inl (V.2.2.2, 8, .inr (.inr (.inr (.inr (shf e)))))), (e 0, .inr (8, [.ref h, .ref (ew 0), .ref (eg 0), .int (zd 0)])), (ew 0, .inl (V.2.2.1, 7, .inl (zw 0))), (eg 0, .inl (V.2.2.1, 7, .inl (zg 0))), (e 1, .inr (8, [.ref h, .ref (ew 1), .ref (eg 1), .int (zd 1)])), (ew 1, .inl (V.2.2.1, 7, .inl (zw 1))), (eg 1, .inl (V.2.2.1, 7, .inl (zg 1))), (e 2, .inr (8, [.ref h, .ref (ew 2), .ref (eg 2), .int (zd 2)])), (ew 2, .inl (V.2.2.1, 7, .inl (zw 2))), (eg 2, .inl (V.2.2.1, 7, .inl (zg 2))), (e 3, .inr (8, [.ref h, .ref (ew 3), .ref (eg 3), .int (zd 3)])), (ew 3, .inl (V.2.2.1, 7, .inl (zw 3))), (eg 3, .inl (V.2.2.1, 7, .inl (zg 3))), (e 4, .inr (8, [.ref h, .ref (ew 4), .ref (eg 4), .int (zd 4)])), (ew 4, .inl (V.2.2.1, 7, .inl (zw 4))), (eg 4, .inl (V.2.2.1, 7, .inl (zg 4))), (e 5, .inr (8, [.ref h, .ref (ew 5), .ref (eg 5), .int (zd 5)])), (ew 5, .inl (V.2.2.1, 7, .inl (zw 5))), (eg 5, .inl (V.2.2.1, 7, .inl (zg 5))), (e 6, .inr (8, [.ref h, .ref (ew 6), .ref (eg 6), .int (zd 6)])), (ew 6, .inl (V.2.2.1, 7, .inl (zw 6))), (eg 6, .inl (V.2.2.1, 7, .inl (zg 6))), (e 7, .inr (8, [.ref h, .ref (ew 7), .ref (eg 7), .int (zd 7)])), (ew 7, .inl (V.2.2.1, 7, .inl (zw 7))), (eg 7, .inl (V.2.2.1, 7, .inl (zg 7))), (o, .inr (8, [.ref oh, .ref ow_, .ref og_, .int (zd 4)])), (ow_, .inl (V.2.2.1, 7, .inl (zw 4))), (og_, .inl (V.2.2.1, 7, .inl (zg 4)))] := hw_33.symm
    clear hw_33; subst hw_33x
    refine g_aload_n X dX7_takeLatest_39 rfl ?_
    refine g_iload_n X dX7_takeLatest_40 rfl ?_
    refine g_put X uwX7 tyX7 tyX7_ok nmX7 0 rfl rfl 1 (by decide) kl_X7_7 rfl rfl rfl rfl (Nat.le_of_ble_eq_true rfl) gwX7 (ws' := [(p, .inr (7, [.ref pl, .int 4])), (pl, .inl (V.2.2.2, 8, .inr (.inr (.inr (.inr (shf e)))))), (e 0, .inr (8, [.ref h, .ref (ew 0), .ref (eg 0), .int (zd 0)])), (ew 0, .inl (V.2.2.1, 7, .inl (zw 0))), (eg 0, .inl (V.2.2.1, 7, .inl (zg 0))), (e 1, .inr (8, [.ref h, .ref (ew 1), .ref (eg 1), .int (zd 1)])), (ew 1, .inl (V.2.2.1, 7, .inl (zw 1))), (eg 1, .inl (V.2.2.1, 7, .inl (zg 1))), (e 2, .inr (8, [.ref h, .ref (ew 2), .ref (eg 2), .int (zd 2)])), (ew 2, .inl (V.2.2.1, 7, .inl (zw 2))), (eg 2, .inl (V.2.2.1, 7, .inl (zg 2))), (e 3, .inr (8, [.ref h, .ref (ew 3), .ref (eg 3), .int (zd 3)])), (ew 3, .inl (V.2.2.1, 7, .inl (zw 3))), (eg 3, .inl (V.2.2.1, 7, .inl (zg 3))), (e 4, .inr (8, [.ref h, .ref (ew 4), .ref (eg 4), .int (zd 4)])), (ew 4, .inl (V.2.2.1, 7, .inl (zw 4))), (eg 4, .inl (V.2.2.1, 7, .inl (zg 4))), (e 5, .inr (8, [.ref h, .ref (ew 5), .ref (eg 5), .int (zd 5)])), (ew 5, .inl (V.2.2.1, 7, .inl (zw 5))), (eg 5, .inl (V.2.2.1, 7, .inl (zg 5))), (e 6, .inr (8, [.ref h, .ref (ew 6), .ref (eg 6), .int (zd 6)])), (ew 6, .inl (V.2.2.1, 7, .inl (zw 6))), (eg 6, .inl (V.2.2.1, 7, .inl (zg 6))), (e 7, .inr (8, [.ref h, .ref (ew 7), .ref (eg 7), .int (zd 7)])), (ew 7, .inl (V.2.2.1, 7, .inl (zw 7))), (eg 7, .inl (V.2.2.1, 7, .inl (zg 7))), (o, .inr (8, [.ref oh, .ref ow_, .ref og_, .int (zd 4)])), (ow_, .inl (V.2.2.1, 7, .inl (zw 4))), (og_, .inl (V.2.2.1, 7, .inl (zg 4)))]) rfl dX7_takeLatest_41 ?_
    exact g_vret X E dX7_takeLatest_44 () trivial rfl
  · refine g_aload_n X dX7_takeLatest_0 rfl ?_
    refine g_get X uwX7 0 rfl rfl 1 (by decide) kl_X7_7 rfl rfl gwX7 dX7_takeLatest_1 ?_
    refine g_iconst X (1) dX7_takeLatest_4 (by decide) ?_
    refine g_isub X dX7_takeLatest_5 ?_
    refine g_toe (x' := 5) (by decide) ?_
    refine g_istore_n X (L' := [some (.ref p), some (.ref o), some (.int 5)]) dX7_takeLatest_6 (by decide) rfl rfl ?_
    refine g_iload_n X dX7_takeLatest_7 rfl ?_
    refine g_if_lt X 44 dX7_takeLatest_8 (by decide) (fun c8_36 => absurd c8_36 (by decide)) (fun c8_36 => ?_)
    refine g_iload_n X dX7_takeLatest_11 rfl ?_
    refine g_aload_n X dX7_takeLatest_12 rfl ?_
    refine g_get X uwX7 0 rfl rfl 0 (by decide) kl_X7_21 rfl rfl gwX7 dX7_takeLatest_13 ?_
    refine g_alenq X 1 (8) rfl rfl dX7_takeLatest_16 ?_
    refine g_icmp_ge X 44 dX7_takeLatest_17 (by decide) (fun c17_37 => absurd c17_37 (by decide)) (fun c17_37 => ?_)
    refine g_aload_n X dX7_takeLatest_20 rfl ?_
    refine g_get X uwX7 0 rfl rfl 0 (by decide) kl_X7_21 rfl rfl gwX7 dX7_takeLatest_21 ?_
    refine g_iload_n X dX7_takeLatest_24 rfl ?_
    refine g_aald' X 1 (.ref (e 5)) rfl (i := 5) rfl (by decide) (by decide) rfl dX7_takeLatest_25 ?_
    refine g_ifnull X dX7_takeLatest_26 ?_
    refine g_aload_n X dX7_takeLatest_29 rfl ?_
    refine g_aload_n X dX7_takeLatest_30 rfl ?_
    refine g_get X uwX7 0 rfl rfl 0 (by decide) kl_X7_21 rfl rfl gwX7 dX7_takeLatest_31 ?_
    refine g_iload_n X dX7_takeLatest_34 rfl ?_
    refine g_aald' X 1 (.ref (e 5)) rfl (i := 5) rfl (by decide) (by decide) rfl dX7_takeLatest_35 ?_
    refine g_callVv X (c_X8_takeFrom V o ow_ og_ oday ow og oh (e 5) (ew 5) (eg 5) h (zd 5) (zw 5) (zg 5)) mo_X8_takeFrom kl_X7_31 [26, 27, 28, 17, 18, 19] [0, 0, 0, 0, 0, 0, 0, 0, 0, 0, 0, 0, 0, 0, 0, 0, 0, 4, 5, 6, 0, 0, 0, 0, 0, 0, 1, 2, 3] rfl (by decide +kernel) rfl rfl (fun _ => Nat.le_of_ble_eq_true rfl) 26 8 rfl rfl (As := [.ref (e 5)]) (st := []) (cs' := (0, 0)) rfl rfl rfl rfl dX7_takeLatest_36 (fun u_38 hp_39 ws_41 hw_40 => ?_)
    have hw_40x : ws_41 = [(p, .inr (7, [.ref pl, .int (nI 6)])), (pl, .inl (V.2.2.2, 8, .inr (.inr (.inr (.inr (shf e)))))), (e 0, .inr (8, [.ref h, .ref (ew 0), .ref (eg 0), .int (zd 0)])), (ew 0, .inl (V.2.2.1, 7, .inl (zw 0))), (eg 0, .inl (V.2.2.1, 7, .inl (zg 0))), (e 1, .inr (8, [.ref h, .ref (ew 1), .ref (eg 1), .int (zd 1)])), (ew 1, .inl (V.2.2.1, 7, .inl (zw 1))), (eg 1, .inl (V.2.2.1, 7, .inl (zg 1))), (e 2, .inr (8, [.ref h, .ref (ew 2), .ref (eg 2), .int (zd 2)])), (ew 2, .inl (V.2.2.1, 7, .inl (zw 2))), (eg 2, .inl (V.2.2.1, 7, .inl (zg 2))), (e 3, .inr (8, [.ref h, .ref (ew 3), .ref (eg 3), .int (zd 3)])), (ew 3, .inl (V.2.2.1, 7, .inl (zw 3))), (eg 3, .inl (V.2.2.1, 7, .inl (zg 3))), (e 4, .inr (8, [.ref h, .ref (ew 4), .ref (eg 4), .int (zd 4)])), (ew 4, .inl (V.2.2.1, 7, .inl (zw 4))), (eg 4, .inl (V.2.2.1, 7, .inl (zg 4))), (e 5, .inr (8, [.ref h, .ref (ew 5), .ref (eg 5), .int (zd 5)])), (ew 5, .inl (V.2.2.1, 7, .inl (zw 5))), (eg 5, .inl (V.2.2.1, 7, .inl (zg 5))), (e 6, .inr (8, [.ref h, .ref (ew 6), .ref (eg 6), .int (zd 6)])), (ew 6, .inl (V.2.2.1, 7, .inl (zw 6))), (eg 6, .inl (V.2.2.1, 7, .inl (zg 6))), (e 7, .inr (8, [.ref h, .ref (ew 7), .ref (eg 7), .int (zd 7)])), (ew 7, .inl (V.2.2.1, 7, .inl (zw 7))), (eg 7, .inl (V.2.2.1, 7, .inl (zg 7))), (o, .inr (8, [.ref oh, .ref ow_, .ref og_, .int (zd 5)])), (ow_, .inl (V.2.2.1, 7, .inl (zw 5))), (og_, .inl (V.2.2.1, 7, .inl (zg 5)))] := hw_40.symm
    clear hw_40; subst hw_40x
    refine g_aload_n X dX7_takeLatest_39 rfl ?_
    refine g_iload_n X dX7_takeLatest_40 rfl ?_
    refine g_put X uwX7 tyX7 tyX7_ok nmX7 0 rfl rfl 1 (by decide) kl_X7_7 rfl rfl rfl rfl (Nat.le_of_ble_eq_true rfl) gwX7 (ws' := [(p, .inr (7, [.ref pl, .int 5])), (pl, .inl (V.2.2.2, 8, .inr (.inr (.inr (.inr (shf e)))))), (e 0, .inr (8, [.ref h, .ref (ew 0), .ref (eg 0), .int (zd 0)])), (ew 0, .inl (V.2.2.1, 7, .inl (zw 0))), (eg 0, .inl (V.2.2.1, 7, .inl (zg 0))), (e 1, .inr (8, [.ref h, .ref (ew 1), .ref (eg 1), .int (zd 1)])), (ew 1, .inl (V.2.2.1, 7, .inl (zw 1))), (eg 1, .inl (V.2.2.1, 7, .inl (zg 1))), (e 2, .inr (8, [.ref h, .ref (ew 2), .ref (eg 2), .int (zd 2)])), (ew 2, .inl (V.2.2.1, 7, .inl (zw 2))), (eg 2, .inl (V.2.2.1, 7, .inl (zg 2))), (e 3, .inr (8, [.ref h, .ref (ew 3), .ref (eg 3), .int (zd 3)])), (ew 3, .inl (V.2.2.1, 7, .inl (zw 3))), (eg 3, .inl (V.2.2.1, 7, .inl (zg 3))), (e 4, .inr (8, [.ref h, .ref (ew 4), .ref (eg 4), .int (zd 4)])), (ew 4, .inl (V.2.2.1, 7, .inl (zw 4))), (eg 4, .inl (V.2.2.1, 7, .inl (zg 4))), (e 5, .inr (8, [.ref h, .ref (ew 5), .ref (eg 5), .int (zd 5)])), (ew 5, .inl (V.2.2.1, 7, .inl (zw 5))), (eg 5, .inl (V.2.2.1, 7, .inl (zg 5))), (e 6, .inr (8, [.ref h, .ref (ew 6), .ref (eg 6), .int (zd 6)])), (ew 6, .inl (V.2.2.1, 7, .inl (zw 6))), (eg 6, .inl (V.2.2.1, 7, .inl (zg 6))), (e 7, .inr (8, [.ref h, .ref (ew 7), .ref (eg 7), .int (zd 7)])), (ew 7, .inl (V.2.2.1, 7, .inl (zw 7))), (eg 7, .inl (V.2.2.1, 7, .inl (zg 7))), (o, .inr (8, [.ref oh, .ref ow_, .ref og_, .int (zd 5)])), (ow_, .inl (V.2.2.1, 7, .inl (zw 5))), (og_, .inl (V.2.2.1, 7, .inl (zg 5)))]) rfl dX7_takeLatest_41 ?_
    exact g_vret X E dX7_takeLatest_44 () trivial rfl
  · refine g_aload_n X dX7_takeLatest_0 rfl ?_
    refine g_get X uwX7 0 rfl rfl 1 (by decide) kl_X7_7 rfl rfl gwX7 dX7_takeLatest_1 ?_
    refine g_iconst X (1) dX7_takeLatest_4 (by decide) ?_
    refine g_isub X dX7_takeLatest_5 ?_
    refine g_toe (x' := 6) (by decide) ?_
    refine g_istore_n X (L' := [some (.ref p), some (.ref o), some (.int 6)]) dX7_takeLatest_6 (by decide) rfl rfl ?_
    refine g_iload_n X dX7_takeLatest_7 rfl ?_
    refine g_if_lt X 44 dX7_takeLatest_8 (by decide) (fun c8_43 => absurd c8_43 (by decide)) (fun c8_43 => ?_)
    refine g_iload_n X dX7_takeLatest_11 rfl ?_
    refine g_aload_n X dX7_takeLatest_12 rfl ?_
    refine g_get X uwX7 0 rfl rfl 0 (by decide) kl_X7_21 rfl rfl gwX7 dX7_takeLatest_13 ?_
    refine g_alenq X 1 (8) rfl rfl dX7_takeLatest_16 ?_
    refine g_icmp_ge X 44 dX7_takeLatest_17 (by decide) (fun c17_44 => absurd c17_44 (by decide)) (fun c17_44 => ?_)
    refine g_aload_n X dX7_takeLatest_20 rfl ?_
    refine g_get X uwX7 0 rfl rfl 0 (by decide) kl_X7_21 rfl rfl gwX7 dX7_takeLatest_21 ?_
    refine g_iload_n X dX7_takeLatest_24 rfl ?_
    refine g_aald' X 1 (.ref (e 6)) rfl (i := 6) rfl (by decide) (by decide) rfl dX7_takeLatest_25 ?_
    refine g_ifnull X dX7_takeLatest_26 ?_
    refine g_aload_n X dX7_takeLatest_29 rfl ?_
    refine g_aload_n X dX7_takeLatest_30 rfl ?_
    refine g_get X uwX7 0 rfl rfl 0 (by decide) kl_X7_21 rfl rfl gwX7 dX7_takeLatest_31 ?_
    refine g_iload_n X dX7_takeLatest_34 rfl ?_
    refine g_aald' X 1 (.ref (e 6)) rfl (i := 6) rfl (by decide) (by decide) rfl dX7_takeLatest_35 ?_
    refine g_callVv X (c_X8_takeFrom V o ow_ og_ oday ow og oh (e 6) (ew 6) (eg 6) h (zd 6) (zw 6) (zg 6)) mo_X8_takeFrom kl_X7_31 [26, 27, 28, 20, 21, 22] [0, 0, 0, 0, 0, 0, 0, 0, 0, 0, 0, 0, 0, 0, 0, 0, 0, 0, 0, 0, 4, 5, 6, 0, 0, 0, 1, 2, 3] rfl (by decide +kernel) rfl rfl (fun _ => Nat.le_of_ble_eq_true rfl) 26 8 rfl rfl (As := [.ref (e 6)]) (st := []) (cs' := (0, 0)) rfl rfl rfl rfl dX7_takeLatest_36 (fun u_45 hp_46 ws_48 hw_47 => ?_)
    have hw_47x : ws_48 = [(p, .inr (7, [.ref pl, .int (nI 7)])), (pl, .inl (V.2.2.2, 8, .inr (.inr (.inr (.inr (shf e)))))), (e 0, .inr (8, [.ref h, .ref (ew 0), .ref (eg 0), .int (zd 0)])), (ew 0, .inl (V.2.2.1, 7, .inl (zw 0))), (eg 0, .inl (V.2.2.1, 7, .inl (zg 0))), (e 1, .inr (8, [.ref h, .ref (ew 1), .ref (eg 1), .int (zd 1)])), (ew 1, .inl (V.2.2.1, 7, .inl (zw 1))), (eg 1, .inl (V.2.2.1, 7, .inl (zg 1))), (e 2, .inr (8, [.ref h, .ref (ew 2), .ref (eg 2), .int (zd 2)])), (ew 2, .inl (V.2.2.1, 7, .inl (zw 2))), (eg 2, .inl (V.2.2.1, 7, .inl (zg 2))), (e 3, .inr (8, [.ref h, .ref (ew 3), .ref (eg 3), .int (zd 3)])), (ew 3, .inl (V.2.2.1, 7, .inl (zw 3))), (eg 3, .inl (V.2.2.1, 7, .inl (zg 3))), (e 4, .inr (8, [.ref h, .ref (ew 4), .ref (eg 4), .int (zd 4)])), (ew 4, .inl (V.2.2.1, 7, .inl (zw 4))), (eg 4, .inl (V.2.2.1, 7, .inl (zg 4))), (e 5, .inr (8, [.ref h, .ref (ew 5), .ref (eg 5), .int (zd 5)])), (ew 5, .inl (V.2.2.1, 7, .inl (zw 5))), (eg 5, .inl (V.2.2.1, 7, .inl (zg 5))), (e 6, .inr (8, [.ref h, .ref (ew 6), .ref (eg 6), .int (zd 6)])), (ew 6, .inl (V.2.2.1, 7, .inl (zw 6))), (eg 6, .inl (V.2.2.1, 7, .inl (zg 6))), (e 7, .inr (8, [.ref h, .ref (ew 7), .ref (eg 7), .int (zd 7)])), (ew 7, .inl (V.2.2.1, 7, .inl (zw 7))), (eg 7, .inl (V.2.2.1, 7, .inl (zg 7))), (o, .inr (8, [.ref oh, .ref ow_, .ref og_, .int (zd 6)])), (ow_, .inl (V.2.2.1, 7, .inl (zw 6))), (og_, .inl (V.2.2.1, 7, .inl (zg 6)))] := hw_47.symm
    clear hw_47; subst hw_47x
    refine g_aload_n X dX7_takeLatest_39 rfl ?_
    refine g_iload_n X dX7_takeLatest_40 rfl ?_
    refine g_put X uwX7 tyX7 tyX7_ok nmX7 0 rfl rfl 1 (by decide) kl_X7_7 rfl rfl rfl rfl (Nat.le_of_ble_eq_true rfl) gwX7 (ws' := [(p, .inr (7, [.ref pl, .int 6])), (pl, .inl (V.2.2.2, 8, .inr (.inr (.inr (.inr (shf e)))))), (e 0, .inr (8, [.ref h, .ref (ew 0), .ref (eg 0), .int (zd 0)])), (ew 0, .inl (V.2.2.1, 7, .inl (zw 0))), (eg 0, .inl (V.2.2.1, 7, .inl (zg 0))), (e 1, .inr (8, [.ref h, .ref (ew 1), .ref (eg 1), .int (zd 1)])), (ew 1, .inl (V.2.2.1, 7, .inl (zw 1))), (eg 1, .inl (V.2.2.1, 7, .inl (zg 1))), (e 2, .inr (8, [.ref h, .ref (ew 2), .ref (eg 2), .int (zd 2)])), (ew 2, .inl (V.2.2.1, 7, .inl (zw 2))), (eg 2, .inl (V.2.2.1, 7, .inl (zg 2))), (e 3, .inr (8, [.ref h, .ref (ew 3), .ref (eg 3), .int (zd 3)])), (ew 3, .inl (V.2.2.1, 7, .inl (zw 3))), (eg 3, .inl (V.2.2.1, 7, .inl (zg 3))), (e 4, .inr (8, [.ref h, .ref (ew 4), .ref (eg 4), .int (zd 4)])), (ew 4, .inl (V.2.2.1, 7, .inl (zw 4))), (eg 4, .inl (V.2.2.1, 7, .inl (zg 4))), (e 5, .inr (8, [.ref h, .ref (ew 5), .ref (eg 5), .int (zd 5)])), (ew 5, .inl (V.2.2.1, 7, .inl (zw 5))), (eg 5, .inl (V.2.2.1, 7, .inl (zg 5))), (e 6, .inr (8, [.ref h, .ref (ew 6), .ref (eg 6), .int (zd 6)])), (ew 6, .inl (V.2.2.1, 7, .inl (zw 6))), (eg 6, .inl (V.2.2.1, 7, .inl (zg 6))), (e 7, .inr (8, [.ref h, .ref (ew 7), .ref (eg 7), .int (zd 7)])), (ew 7, .inl (V.2.2.1, 7, .inl (zw 7))), (eg 7, .inl (V.2.2.1, 7, .inl (zg 7))), (o, .inr (8, [.ref oh, .ref ow_, .ref og_, .int (zd 6)])), (ow_, .inl (V.2.2.1, 7, .inl (zw 6))), (og_, .inl (V.2.2.1, 7, .inl (zg 6)))]) rfl dX7_takeLatest_41 ?_
    exact g_vret X E dX7_takeLatest_44 () trivial rfl
  · refine g_aload_n X dX7_takeLatest_0 rfl ?_
    refine g_get X uwX7 0 rfl rfl 1 (by decide) kl_X7_7 rfl rfl gwX7 dX7_takeLatest_1 ?_
    refine g_iconst X (1) dX7_takeLatest_4 (by decide) ?_
    refine g_isub X dX7_takeLatest_5 ?_
    refine g_toe (x' := 7) (by decide) ?_
    refine g_istore_n X (L' := [some (.ref p), some (.ref o), some (.int 7)]) dX7_takeLatest_6 (by decide) rfl rfl ?_
    refine g_iload_n X dX7_takeLatest_7 rfl ?_
    refine g_if_lt X 44 dX7_takeLatest_8 (by decide) (fun c8_50 => absurd c8_50 (by decide)) (fun c8_50 => ?_)
    refine g_iload_n X dX7_takeLatest_11 rfl ?_
    refine g_aload_n X dX7_takeLatest_12 rfl ?_
    refine g_get X uwX7 0 rfl rfl 0 (by decide) kl_X7_21 rfl rfl gwX7 dX7_takeLatest_13 ?_
    refine g_alenq X 1 (8) rfl rfl dX7_takeLatest_16 ?_
    refine g_icmp_ge X 44 dX7_takeLatest_17 (by decide) (fun c17_51 => absurd c17_51 (by decide)) (fun c17_51 => ?_)
    refine g_aload_n X dX7_takeLatest_20 rfl ?_
    refine g_get X uwX7 0 rfl rfl 0 (by decide) kl_X7_21 rfl rfl gwX7 dX7_takeLatest_21 ?_
    refine g_iload_n X dX7_takeLatest_24 rfl ?_
    refine g_aald' X 1 (.ref (e 7)) rfl (i := 7) rfl (by decide) (by decide) rfl dX7_takeLatest_25 ?_
    refine g_ifnull X dX7_takeLatest_26 ?_
    refine g_aload_n X dX7_takeLatest_29 rfl ?_
    refine g_aload_n X dX7_takeLatest_30 rfl ?_
    refine g_get X uwX7 0 rfl rfl 0 (by decide) kl_X7_21 rfl rfl gwX7 dX7_takeLatest_31 ?_
    refine g_iload_n X dX7_takeLatest_34 rfl ?_
    refine g_aald' X 1 (.ref (e 7)) rfl (i := 7) rfl (by decide) (by decide) rfl dX7_takeLatest_35 ?_
    refine g_callVv X (c_X8_takeFrom V o ow_ og_ oday ow og oh (e 7) (ew 7) (eg 7) h (zd 7) (zw 7) (zg 7)) mo_X8_takeFrom kl_X7_31 [26, 27, 28, 23, 24, 25] [0, 0, 0, 0, 0, 0, 0, 0, 0, 0, 0, 0, 0, 0, 0, 0, 0, 0, 0, 0, 0, 0, 0, 4, 5, 6, 1, 2, 3] rfl (by decide +kernel) rfl rfl (fun _ => Nat.le_of_ble_eq_true rfl) 26 8 rfl rfl (As := [.ref (e 7)]) (st := []) (cs' := (0, 0)) rfl rfl rfl rfl dX7_takeLatest_36 (fun u_52 hp_53 ws_55 hw_54 => ?_)
    have hw_54x : ws_55 = [(p, .inr (7, [.ref pl, .int (nI 8)])), (pl, .inl (V.2.2.2, 8, .inr (.inr (.inr (.inr (shf e)))))), (e 0, .inr (8, [.ref h, .ref (ew 0), .ref (eg 0), .int (zd 0)])), (ew 0, .inl (V.2.2.1, 7, .inl (zw 0))), (eg 0, .inl (V.2.2.1, 7, .inl (zg 0))), (e 1, .inr (8, [.ref h, .ref (ew 1), .ref (eg 1), .int (zd 1)])), (ew 1, .inl (V.2.2.1, 7, .inl (zw 1))), (eg 1, .inl (V.2.2.1, 7, .inl (zg 1))), (e 2, .inr (8, [.ref h, .ref (ew 2), .ref (eg 2), .int (zd 2)])), (ew 2, .inl (V.2.2.1, 7, .inl (zw 2))), (eg 2, .inl (V.2.2.1, 7, .inl (zg 2))), (e 3, .inr (8, [.ref h, .ref (ew 3), .ref (eg 3), .int (zd 3)])), (ew 3, .inl (V.2.2.1, 7, .inl (zw 3))), (eg 3, .inl (V.2.2.1, 7, .inl (zg 3))), (e 4, .inr (8, [.ref h, .ref (ew 4), .ref (eg 4), .int (zd 4)])), (ew 4, .inl (V.2.2.1, 7, .inl (zw 4))), (eg 4, .inl (V.2.2.1, 7, .inl (zg 4))), (e 5, .inr (8, [.ref h, .ref (ew 5), .ref (eg 5), .int (zd 5)])), (ew 5, .inl (V.2.2.1, 7, .inl (zw 5))), (eg 5, .inl (V.2.2.1, 7, .inl (zg 5))), (e 6, .inr (8, [.ref h, .ref (ew 6), .ref (eg 6), .int (zd 6)])), (ew 6, .inl (V.2.2.1, 7, .inl (zw 6))), (eg 6, .inl (V.2.2.1, 7, .inl (zg 6))), (e 7, .inr (8, [.ref h, .ref (ew 7), .ref (eg 7), .int (zd 7)])), (ew 7, .inl (V.2.2.1, 7, .inl (zw 7))), (eg 7, .inl (V.2.2.1, 7, .inl (zg 7))), (o, .inr (8, [.ref oh, .ref ow_, .ref og_, .int (zd 7)])), (ow_, .inl (V.2.2.1, 7, .inl (zw 7))), (og_, .inl (V.2.2.1, 7, .inl (zg 7)))] := hw_54.symm
    clear hw_54; subst hw_54x
    refine g_aload_n X dX7_takeLatest_39 rfl ?_
    refine g_iload_n X dX7_takeLatest_40 rfl ?_
    refine g_put X uwX7 tyX7 tyX7_ok nmX7 0 rfl rfl 1 (by decide) kl_X7_7 rfl rfl rfl rfl (Nat.le_of_ble_eq_true rfl) gwX7 (ws' := [(p, .inr (7, [.ref pl, .int 7])), (pl, .inl (V.2.2.2, 8, .inr (.inr (.inr (.inr (shf e)))))), (e 0, .inr (8, [.ref h, .ref (ew 0), .ref (eg 0), .int (zd 0)])), (ew 0, .inl (V.2.2.1, 7, .inl (zw 0))), (eg 0, .inl (V.2.2.1, 7, .inl (zg 0))), (e 1, .inr (8, [.ref h, .ref (ew 1), .ref (eg 1), .int (zd 1)])), (ew 1, .inl (V.2.2.1, 7, .inl (zw 1))), (eg 1, .inl (V.2.2.1, 7, .inl (zg 1))), (e 2, .inr (8, [.ref h, .ref (ew 2), .ref (eg 2), .int (zd 2)])), (ew 2, .inl (V.2.2.1, 7, .inl (zw 2))), (eg 2, .inl (V.2.2.1, 7, .inl (zg 2))), (e 3, .inr (8, [.ref h, .ref (ew 3), .ref (eg 3), .int (zd 3)])), (ew 3, .inl (V.2.2.1, 7, .inl (zw 3))), (eg 3, .inl (V.2.2.1, 7, .inl (zg 3))), (e 4, .inr (8, [.ref h, .ref (ew 4), .ref (eg 4), .int (zd 4)])), (ew 4, .inl (V.2.2.1, 7, .inl (zw 4))), (eg 4, .inl (V.2.2.1, 7, .inl (zg 4))), (e 5, .inr (8, [.ref h, .ref (ew 5), .ref (eg 5), .int (zd 5)])), (ew 5, .inl (V.2.2.1, 7, .inl (zw 5))), (eg 5, .inl (V.2.2.1, 7, .inl (zg 5))), (e 6, .inr (8, [.ref h, .ref (ew 6), .ref (eg 6), .int (zd 6)])), (ew 6, .inl (V.2.2.1, 7, .inl (zw 6))), (eg 6, .inl (V.2.2.1, 7, .inl (zg 6))), (e 7, .inr (8, [.ref h, .ref (ew 7), .ref (eg 7), .int (zd 7)])), (ew 7, .inl (V.2.2.1, 7, .inl (zw 7))), (eg 7, .inl (V.2.2.1, 7, .inl (zg 7))), (o, .inr (8, [.ref oh, .ref ow_, .ref og_, .int (zd 7)])), (ow_, .inl (V.2.2.1, 7, .inl (zw 7))), (og_, .inl (V.2.2.1, 7, .inl (zg 7)))]) rfl dX7_takeLatest_41 ?_
    exact g_vret X E dX7_takeLatest_44 () trivial rfl

set_option maxHeartbeats 4000000 in
set_option maxRecDepth 100000 in
theorem c_X7_takeLatest2 (V : gV) (p : Nat) (pl : Nat) (e : Nat → Nat) (ew : Nat → Nat) (eg : Nat → Nat) (zw : Nat → Nat → Int32) (zg : Nat → Nat → Int32) (zd : Nat → Int32) (h : Nat) (q : Nat) (o : Nat) (ow_ : Nat) (og_ : Nat) (oh : Nat) (oday : Int32) (ow : Nat → Int32) (og : Nat → Int32) (hq : 1 ≤ q ∧ q ≤ 2) : Kv V yX7_takeLatest cX7_takeLatest 3 ({ frames := 2, cells := 0, slots := 0, locals := 44 }) [.ref p, .ref o] [(p, .inr (7, [.ref pl, .int (nI q)])), (pl, .inl (V.2.2.2, 2, .inr (.inr (.inr (.inr (shf e)))))), (e 0, .inr (8, [.ref h, .ref (ew 0), .ref (eg 0), .int (zd 0)])), (ew 0, .inl (V.2.2.1, 7, .inl (zw 0))), (eg 0, .inl (V.2.2.1, 7, .inl (zg 0))), (e 1, .inr (8, [.ref h, .ref (ew 1), .ref (eg 1), .int (zd 1)])), (ew 1, .inl (V.2.2.1, 7, .inl (zw 1))), (eg 1, .inl (V.2.2.1, 7, .inl (zg 1))), (o, .inr (8, [.ref oh, .ref ow_, .ref og_, .int oday])), (ow_, .inl (V.2.2.1, 7, .inl ow)), (og_, .inl (V.2.2.1, 7, .inl og))] (fun u : Unit => True) (fun u => [(p, .inr (7, [.ref pl, .int (nI (q - 1))])), (pl, .inl (V.2.2.2, 2, .inr (.inr (.inr (.inr (shf e)))))), (e 0, .inr (8, [.ref h, .ref (ew 0), .ref (eg 0), .int (zd 0)])), (ew 0, .inl (V.2.2.1, 7, .inl (zw 0))), (eg 0, .inl (V.2.2.1, 7, .inl (zg 0))), (e 1, .inr (8, [.ref h, .ref (ew 1), .ref (eg 1), .int (zd 1)])), (ew 1, .inl (V.2.2.1, 7, .inl (zw 1))), (eg 1, .inl (V.2.2.1, 7, .inl (zg 1))), (o, .inr (8, [.ref oh, .ref ow_, .ref og_, .int (zd (q - 1))])), (ow_, .inl (V.2.2.1, 7, .inl (zw (q - 1)))), (og_, .inl (V.2.2.1, 7, .inl (zg (q - 1))))]) := by
  refine Kv.of [some (.ref p), some (.ref o), none] (by decide) (Nat.le_of_ble_eq_true rfl) rfl rfl ?_
  intro Z X E
  have X : gX V Z RX7 cX7_takeLatest 3 ({ frames := 2, cells := 0, slots := 0, locals := 44 }) := X
  obtain rfl | rfl : q = 1 ∨ q = 2 := by omega
  · refine g_aload_n X dX7_takeLatest_0 rfl ?_
    refine g_get X uwX7 0 rfl rfl 1 (by decide) kl_X7_7 rfl rfl gwX7 dX7_takeLatest_1 ?_
    refine g_iconst X (1) dX7_takeLatest_4 (by decide) ?_
    refine g_isub X dX7_takeLatest_5 ?_
    refine g_toe (x' := 0) (by decide) ?_
    refine g_istore_n X (L' := [some (.ref p), some (.ref o), some (.int 0)]) dX7_takeLatest_6 (by decide) rfl rfl ?_
    refine g_iload_n X dX7_takeLatest_7 rfl ?_
    refine g_if_lt X 44 dX7_takeLatest_8 (by decide) (fun c8_1 => absurd c8_1 (by decide)) (fun c8_1 => ?_)
    refine g_iload_n X dX7_takeLatest_11 rfl ?_
    refine g_aload_n X dX7_takeLatest_12 rfl ?_
    refine g_get X uwX7 0 rfl rfl 0 (by decide) kl_X7_21 rfl rfl gwX7 dX7_takeLatest_13 ?_
    refine g_alenq X 1 (2) rfl rfl dX7_takeLatest_16 ?_
    refine g_icmp_ge X 44 dX7_takeLatest_17 (by decide) (fun c17_2 => absurd c17_2 (by decide)) (fun c17_2 => ?_)
    refine g_aload_n X dX7_takeLatest_20 rfl ?_
    refine g_get X uwX7 0 rfl rfl 0 (by decide) kl_X7_21 rfl rfl gwX7 dX7_takeLatest_21 ?_
    refine g_iload_n X dX7_takeLatest_24 rfl ?_
    refine g_aald' X 1 (.ref (e 0)) rfl (i := 0) rfl (by decide) (by decide) rfl dX7_takeLatest_25 ?_
    refine g_ifnull X dX7_takeLatest_26 ?_
    refine g_aload_n X dX7_takeLatest_29 rfl ?_
    refine g_aload_n X dX7_takeLatest_30 rfl ?_
    refine g_get X uwX7 0 rfl rfl 0 (by decide) kl_X7_21 rfl rfl gwX7 dX7_takeLatest_31 ?_
    refine g_iload_n X dX7_takeLatest_34 rfl ?_
    refine g_aald' X 1 (.ref (e 0)) rfl (i := 0) rfl (by decide) (by decide) rfl dX7_takeLatest_35 ?_
    refine g_callVv X (c_X8_takeFrom V o ow_ og_ oday ow og oh (e 0) (ew 0) (eg 0) h (zd 0) (zw 0) (zg 0)) mo_X8_takeFrom kl_X7_31 [8, 9, 10, 2, 3, 4] [0, 0, 4, 5, 6, 0, 0, 0, 1, 2, 3] rfl (by decide +kernel) rfl rfl (fun _ => Nat.le_of_ble_eq_true rfl) 8 8 rfl rfl (As := [.ref (e 0)]) (st := []) (cs' := (0, 0)) rfl rfl rfl rfl dX7_takeLatest_36 (fun u_3 hp_4 ws_6 hw_5 => ?_)
    have hw_5x : ws_6 = [(p, .inr (7, [.ref pl, .int (nI 1)])), (pl, .inl (V.2.2.2, 2, .inr (.inr (.inr (.inr (shf e)))))), (e 0, .inr (8, [.ref h, .ref (ew 0), .ref (eg 0), .int (zd 0)])), (ew 0, .inl (V.2.2.1, 7, .inl (zw 0))), (eg 0, .inl (V.2.2.1, 7, .inl (zg 0))), (e 1, .inr (8, [.ref h, .ref (ew 1), .ref (eg 1), .int (zd 1)])), (ew 1, .inl (V.2.2.1, 7, .inl (zw 1))), (eg 1, .inl (V.2.2.1, 7, .inl (zg 1))), (o, .inr (8, [.ref oh, .ref ow_, .ref og_, .int (zd 0)])), (ow_, .inl (V.2.2.1, 7, .inl (zw 0))), (og_, .inl (V.2.2.1, 7, .inl (zg 0)))] := hw_5.symm
    clear hw_5; subst hw_5x
    refine g_aload_n X dX7_takeLatest_39 rfl ?_
    refine g_iload_n X dX7_takeLatest_40 rfl ?_
    refine g_put X uwX7 tyX7 tyX7_ok nmX7 0 rfl rfl 1 (by decide) kl_X7_7 rfl rfl rfl rfl (Nat.le_of_ble_eq_true rfl) gwX7 (ws' := [(p, .inr (7, [.ref pl, .int 0])), (pl, .inl (V.2.2.2, 2, .inr (.inr (.inr (.inr (shf e)))))), (e 0, .inr (8, [.ref h, .ref (ew 0), .ref (eg 0), .int (zd 0)])), (ew 0, .inl (V.2.2.1, 7, .inl (zw 0))), (eg 0, .inl (V.2.2.1, 7, .inl (zg 0))), (e 1, .inr (8, [.ref h, .ref (ew 1), .ref (eg 1), .int (zd 1)])), (ew 1, .inl (V.2.2.1, 7, .inl (zw 1))), (eg 1, .inl (V.2.2.1, 7, .inl (zg 1))), (o, .inr (8, [.ref oh, .ref ow_, .ref og_, .int (zd 0)])), (ow_, .inl (V.2.2.1, 7, .inl (zw 0))), (og_, .inl (V.2.2.1, 7, .inl (zg 0)))]) rfl dX7_takeLatest_41 ?_
    exact g_vret X E dX7_takeLatest_44 () trivial rfl
  · refine g_aload_n X dX7_takeLatest_0 rfl ?_
    refine g_get X uwX7 0 rfl rfl 1 (by decide) kl_X7_7 rfl rfl gwX7 dX7_takeLatest_1 ?_
    refine g_iconst X (1) dX7_takeLatest_4 (by decide) ?_
    refine g_isub X dX7_takeLatest_5 ?_
    refine g_toe (x' := 1) (by decide) ?_
    refine g_istore_n X (L' := [some (.ref p), some (.ref o), some (.int 1)]) dX7_takeLatest_6 (by decide) rfl rfl ?_
    refine g_iload_n X dX7_takeLatest_7 rfl ?_
    refine g_if_lt X 44 dX7_takeLatest_8 (by decide) (fun c8_8 => absurd c8_8 (by decide)) (fun c8_8 => ?_)
    refine g_iload_n X dX7_takeLatest_11 rfl ?_
    refine g_aload_n X dX7_takeLatest_12 rfl ?_
    refine g_get X uwX7 0 rfl rfl 0 (by decide) kl_X7_21 rfl rfl gwX7 dX7_takeLatest_13 ?_
    refine g_alenq X 1 (2) rfl rfl dX7_takeLatest_16 ?_
    refine g_icmp_ge X 44 dX7_takeLatest_17 (by decide) (fun c17_9 => absurd c17_9 (by decide)) (fun c17_9 => ?_)
    refine g_aload_n X dX7_takeLatest_20 rfl ?_
    refine g_get X uwX7 0 rfl rfl 0 (by decide) kl_X7_21 rfl rfl gwX7 dX7_takeLatest_21 ?_
    refine g_iload_n X dX7_takeLatest_24 rfl ?_
    refine g_aald' X 1 (.ref (e 1)) rfl (i := 1) rfl (by decide) (by decide) rfl dX7_takeLatest_25 ?_
    refine g_ifnull X dX7_takeLatest_26 ?_
    refine g_aload_n X dX7_takeLatest_29 rfl ?_
    refine g_aload_n X dX7_takeLatest_30 rfl ?_
    refine g_get X uwX7 0 rfl rfl 0 (by decide) kl_X7_21 rfl rfl gwX7 dX7_takeLatest_31 ?_
    refine g_iload_n X dX7_takeLatest_34 rfl ?_
    refine g_aald' X 1 (.ref (e 1)) rfl (i := 1) rfl (by decide) (by decide) rfl dX7_takeLatest_35 ?_
    refine g_callVv X (c_X8_takeFrom V o ow_ og_ oday ow og oh (e 1) (ew 1) (eg 1) h (zd 1) (zw 1) (zg 1)) mo_X8_takeFrom kl_X7_31 [8, 9, 10, 5, 6, 7] [0, 0, 0, 0, 0, 4, 5, 6, 1, 2, 3] rfl (by decide +kernel) rfl rfl (fun _ => Nat.le_of_ble_eq_true rfl) 8 8 rfl rfl (As := [.ref (e 1)]) (st := []) (cs' := (0, 0)) rfl rfl rfl rfl dX7_takeLatest_36 (fun u_10 hp_11 ws_13 hw_12 => ?_)
    have hw_12x : ws_13 = [(p, .inr (7, [.ref pl, .int (nI 2)])), (pl, .inl (V.2.2.2, 2, .inr (.inr (.inr (.inr (shf e)))))), (e 0, .inr (8, [.ref h, .ref (ew 0), .ref (eg 0), .int (zd 0)])), (ew 0, .inl (V.2.2.1, 7, .inl (zw 0))), (eg 0, .inl (V.2.2.1, 7, .inl (zg 0))), (e 1, .inr (8, [.ref h, .ref (ew 1), .ref (eg 1), .int (zd 1)])), (ew 1, .inl (V.2.2.1, 7, .inl (zw 1))), (eg 1, .inl (V.2.2.1, 7, .inl (zg 1))), (o, .inr (8, [.ref oh, .ref ow_, .ref og_, .int (zd 1)])), (ow_, .inl (V.2.2.1, 7, .inl (zw 1))), (og_, .inl (V.2.2.1, 7, .inl (zg 1)))] := hw_12.symm
    clear hw_12; subst hw_12x
    refine g_aload_n X dX7_takeLatest_39 rfl ?_
    refine g_iload_n X dX7_takeLatest_40 rfl ?_
    refine g_put X uwX7 tyX7 tyX7_ok nmX7 0 rfl rfl 1 (by decide) kl_X7_7 rfl rfl rfl rfl (Nat.le_of_ble_eq_true rfl) gwX7 (ws' := [(p, .inr (7, [.ref pl, .int 1])), (pl, .inl (V.2.2.2, 2, .inr (.inr (.inr (.inr (shf e)))))), (e 0, .inr (8, [.ref h, .ref (ew 0), .ref (eg 0), .int (zd 0)])), (ew 0, .inl (V.2.2.1, 7, .inl (zw 0))), (eg 0, .inl (V.2.2.1, 7, .inl (zg 0))), (e 1, .inr (8, [.ref h, .ref (ew 1), .ref (eg 1), .int (zd 1)])), (ew 1, .inl (V.2.2.1, 7, .inl (zw 1))), (eg 1, .inl (V.2.2.1, 7, .inl (zg 1))), (o, .inr (8, [.ref oh, .ref ow_, .ref og_, .int (zd 1)])), (ow_, .inl (V.2.2.1, 7, .inl (zw 1))), (og_, .inl (V.2.2.1, 7, .inl (zg 1)))]) rfl dX7_takeLatest_41 ?_
    exact g_vret X E dX7_takeLatest_44 () trivial rfl
