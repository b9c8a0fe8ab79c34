set_option maxHeartbeats 4000000 in
set_option maxRecDepth 100000 in
theorem c_X2_init (V : gV) (co : Nat)  : KC V yX2_init cX2_init 1 ({ frames := 1, cells := 2, slots := 14, locals := 20 }) [.ref co] [(co, .inr (2, [.null, .null, .int 0]))] (fun u : Nat × Nat => True) (fun u => [(co, .inr (2, [.ref u.1, .ref u.2, .int 0])), (u.1, .inl (V.2.2.1, 7, .inl (fun _ => 0))), (u.2, .inl (V.2.2.1, 7, .inl (fun _ => 0)))]) := by
  refine KC.of [some (.ref co)] (by decide) rfl (Nat.le_of_ble_eq_true rfl) rfl rfl ?_
  intro Z X E hin hA
  have X : gX V Z RX2 cX2_init 1 ({ frames := 1, cells := 2, slots := 14, locals := 20 }) := X
  refine g_aload_n X dX2_init_0 rfl ?_
  refine g_obj X kl_X2_3 rfl dX2_init_1 ?_
  refine g_aload_n X dX2_init_4 rfl ?_
  refine g_bipush X (7) dX2_init_5 (by decide) ?_
  refine g_newa X 7 ka_42 (by decide) (by decide) (by decide) (cs' := (1, 7)) rfl rfl (by decide) (by decide) dX2_init_7 (fun q_1 => ?_)
  refine g_putF X hin uwX2 tyX2 tyX2_ok nmX2 0 rfl rfl 0 (by decide) kl_X2_9 rfl rfl rfl rfl rfl (Nat.le_of_ble_eq_true rfl) gwX2 (ws' := [(co, .inr (2, [.ref q_1, .null, .int 0])), (q_1, .inl (V.2.2.1, 7, .inl (fun _ => 0)))]) rfl dX2_init_9 ?_
  refine g_aload_n X dX2_init_12 rfl ?_
  refine g_bipush X (7) dX2_init_13 (by decide) ?_
  refine g_newa X 7 ka_42 (by decide) (by decide) (by decide) (cs' := (2, 14)) rfl rfl (by decide) (by decide) dX2_init_15 (fun q_2 => ?_)
  refine g_putF X hin uwX2 tyX2 tyX2_ok nmX2 0 rfl rfl 1 (by decide) kl_X2_15 rfl rfl rfl rfl rfl (Nat.le_of_ble_eq_true rfl) gwX2 (ws' := [(co, .inr (2, [.ref q_1, .ref q_2, .int 0])), (q_1, .inl (V.2.2.1, 7, .inl (fun _ => 0))), (q_2, .inl (V.2.2.1, 7, .inl (fun _ => 0)))]) rfl dX2_init_17 ?_
  refine g_aload_n X dX2_init_20 rfl ?_
  refine g_iconst X (0) dX2_init_21 (by decide) ?_
  refine g_put X uwX2 tyX2 tyX2_ok nmX2 0 rfl rfl 2 (by decide) kl_X2_18 rfl rfl rfl rfl (Nat.le_of_ble_eq_true rfl) gwX2 (ws' := [(co, .inr (2, [.ref q_1, .ref q_2, .int 0])), (q_1, .inl (V.2.2.1, 7, .inl (fun _ => 0))), (q_2, .inl (V.2.2.1, 7, .inl (fun _ => 0)))]) rfl dX2_init_22 ?_
  exact g_vret X E dX2_init_25 ⟨q_1, q_2⟩ trivial rfl

set_option maxHeartbeats 4000000 in
set_option maxRecDepth 100000 in
theorem c_X3_init (V : gV) (cu : Nat)  : KC V yX3_init cX3_init 1 ({ frames := 1, cells := 0, slots := 0, locals := 20 }) [.ref cu] [(cu, .inr (3, [.int 0, .int 0, .int 0]))] (fun u : Unit => True) (fun u => [(cu, .inr (3, [.int (-4), .int (-4), .int (-4)]))]) := by
  refine KC.of [some (.ref cu)] (by decide) rfl (Nat.le_of_ble_eq_true rfl) rfl rfl ?_
  intro Z X E hin hA
  have X : gX V Z RX3 cX3_init 1 ({ frames := 1, cells := 0, slots := 0, locals := 20 }) := X
  refine g_aload_n X dX3_init_0 rfl ?_
  refine g_obj X kl_X3_3 rfl dX3_init_1 ?_
  refine g_aload_n X dX3_init_4 rfl ?_
  refine g_bipush X (-4) dX3_init_5 (by decide) ?_
  refine g_put X uwX3 tyX3 tyX3_ok nmX3 0 rfl rfl 0 (by decide) kl_X3_9 rfl rfl rfl rfl (Nat.le_of_ble_eq_true rfl) gwX3 (ws' := [(cu, .inr (3, [.int (-4), .int 0, .int 0]))]) rfl dX3_init_7 ?_
  refine g_aload_n X dX3_init_10 rfl ?_
  refine g_bipush X (-4) dX3_init_11 (by decide) ?_
  refine g_put X uwX3 tyX3 tyX3_ok nmX3 0 rfl rfl 1 (by decide) kl_X3_15 rfl rfl rfl rfl (Nat.le_of_ble_eq_true rfl) gwX3 (ws' := [(cu, .inr (3, [.int (-4), .int (-4), .int 0]))]) rfl dX3_init_13 ?_
  refine g_aload_n X dX3_init_16 rfl ?_
  refine g_bipush X (-4) dX3_init_17 (by decide) ?_
  refine g_put X uwX3 tyX3 tyX3_ok nmX3 0 rfl rfl 2 (by decide) kl_X3_18 rfl rfl rfl rfl (Nat.le_of_ble_eq_true rfl) gwX3 (ws' := [(cu, .inr (3, [.int (-4), .int (-4), .int (-4)]))]) rfl dX3_init_19 ?_
  exact g_vret X E dX3_init_22 () trivial rfl

set_option maxHeartbeats 4000000 in
set_option maxRecDepth 100000 in
theorem c_X4_init (V : gV) (h : Nat)  : KC V yX4_init cX4_init 1 ({ frames := 1, cells := 8, slots := 58, locals := 20 }) [.ref h] [(h, .inr (4, [.null, .null, .null, .null, .null, .null, .null, .int 0, .int 0, .int 0, .null, .int 0]))] (fun u : Nat × Nat × Nat × Nat × Nat × Nat × Nat × Nat => True) (fun u => [(h, .inr (4, [.ref u.1, .ref u.2.1, .ref u.2.2.1, .ref u.2.2.2.1, .ref u.2.2.2.2.1, .ref u.2.2.2.2.2.1, .ref u.2.2.2.2.2.2.1, .int 0, .int 0, .int 0, .ref u.2.2.2.2.2.2.2, .int 0])), (u.1, .inl (V.2.2.1, 7, .inl (fun _ => 0))), (u.2.1, .inl (V.2.2.1, 7, .inl (fun _ => 0))), (u.2.2.1, .inl (V.2.2.1, 7, .inl (fun _ => 0))), (u.2.2.2.1, .inl (V.2.2.1, 7, .inl (fun _ => 0))), (u.2.2.2.2.1, .inl (V.2.2.1, 9, .inl (fun _ => 0))), (u.2.2.2.2.2.1, .inl (V.2.2.1, 9, .inl (fun _ => 0))), (u.2.2.2.2.2.2.1, .inl (V.2.2.1, 9, .inl (fun _ => 0))), (u.2.2.2.2.2.2.2, .inl (V.2.2.1, 3, .inl (fun _ => 0)))]) := by
  refine KC.of [some (.ref h)] (by decide) rfl (Nat.le_of_ble_eq_true rfl) rfl rfl ?_
  intro Z X E hin hA
  have X : gX V Z RX4 cX4_init 1 ({ frames := 1, cells := 8, slots := 58, locals := 20 }) := X
  refine g_aload_n X dX4_init_0 rfl ?_
  refine g_obj X kl_X4_3 rfl dX4_init_1 ?_
  refine g_aload_n X dX4_init_4 rfl ?_
  refine g_bipush X (7) dX4_init_5 (by decide) ?_
  refine g_newa X 7 ka_42 (by decide) (by decide) (by decide) (cs' := (1, 7)) rfl rfl (by decide) (by decide) dX4_init_7 (fun q_1 => ?_)
  refine g_putF X hin uwX4 tyX4 tyX4_ok nmX4 0 rfl rfl 0 (by decide) kl_X4_9 rfl rfl rfl rfl rfl (Nat.le_of_ble_eq_true rfl) gwX4 (ws' := [(h, .inr (4, [.ref q_1, .null, .null, .null, .null, .null, .null, .int 0, .int 0, .int 0, .null, .int 0])), (q_1, .inl (V.2.2.1, 7, .inl (fun _ => 0)))]) rfl dX4_init_9 ?_
  refine g_aload_n X dX4_init_12 rfl ?_
  refine g_bipush X (7) dX4_init_13 (by decide) ?_
  refine g_newa X 7 ka_42 (by decide) (by decide) (by decide) (cs' := (2, 14)) rfl rfl (by decide) (by decide) dX4_init_15 (fun q_2 => ?_)
  refine g_putF X hin uwX4 tyX4 tyX4_ok nmX4 0 rfl rfl 1 (by decide) kl_X4_15 rfl rfl rfl rfl rfl (Nat.le_of_ble_eq_true rfl) gwX4 (ws' := [(h, .inr (4, [.ref q_1, .ref q_2, .null, .null, .null, .null, .null, .int 0, .int 0, .int 0, .null, .int 0])), (q_1, .inl (V.2.2.1, 7, .inl (fun _ => 0))), (q_2, .inl (V.2.2.1, 7, .inl (fun _ => 0)))]) rfl dX4_init_17 ?_
  refine g_aload_n X dX4_init_20 rfl ?_
  refine g_bipush X (7) dX4_init_21 (by decide) ?_
  refine g_newa X 7 ka_42 (by decide) (by decide) (by decide) (cs' := (3, 21)) rfl rfl (by decide) (by decide) dX4_init_23 (fun q_3 => ?_)
  refine g_putF X hin uwX4 tyX4 tyX4_ok nmX4 0 rfl rfl 2 (by decide) kl_X4_18 rfl rfl rfl rfl rfl (Nat.le_of_ble_eq_true rfl) gwX4 (ws' := [(h, .inr (4, [.ref q_1, .ref q_2, .ref q_3, .null, .null, .null, .null, .int 0, .int 0, .int 0, .null, .int 0])), (q_1, .inl (V.2.2.1, 7, .inl (fun _ => 0))), (q_2, .inl (V.2.2.1, 7, .inl (fun _ => 0))), (q_3, .inl (V.2.2.1, 7, .inl (fun _ => 0)))]) rfl dX4_init_25 ?_
  refine g_aload_n X dX4_init_28 rfl ?_
  refine g_bipush X (7) dX4_init_29 (by decide) ?_
  refine g_newa X 7 ka_42 (by decide) (by decide) (by decide) (cs' := (4, 28)) rfl rfl (by decide) (by decide) dX4_init_31 (fun q_4 => ?_)
  refine g_putF X hin uwX4 tyX4 tyX4_ok nmX4 0 rfl rfl 3 (by decide) kl_X4_21 rfl rfl rfl rfl rfl (Nat.le_of_ble_eq_true rfl) gwX4 (ws' := [(h, .inr (4, [.ref q_1, .ref q_2, .ref q_3, .ref q_4, .null, .null, .null, .int 0, .int 0, .int 0, .null, .int 0])), (q_1, .inl (V.2.2.1, 7, .inl (fun _ => 0))), (q_2, .inl (V.2.2.1, 7, .inl (fun _ => 0))), (q_3, .inl (V.2.2.1, 7, .inl (fun _ => 0))), (q_4, .inl (V.2.2.1, 7, .inl (fun _ => 0)))]) rfl dX4_init_33 ?_
  refine g_aload_n X dX4_init_36 rfl ?_
  refine g_bipush X (9) dX4_init_37 (by decide) ?_
  refine g_newa X 9 ka_42 (by decide) (by decide) (by decide) (cs' := (5, 37)) rfl rfl (by decide) (by decide) dX4_init_39 (fun q_5 => ?_)
  refine g_putF X hin uwX4 tyX4 tyX4_ok nmX4 0 rfl rfl 4 (by decide) kl_X4_24 rfl rfl rfl rfl rfl (Nat.le_of_ble_eq_true rfl) gwX4 (ws' := [(h, .inr (4, [.ref q_1, .ref q_2, .ref q_3, .ref q_4, .ref q_5, .null, .null, .int 0, .int 0, .int 0, .null, .int 0])), (q_1, .inl (V.2.2.1, 7, .inl (fun _ => 0))), (q_2, .inl (V.2.2.1, 7, .inl (fun _ => 0))), (q_3, .inl (V.2.2.1, 7, .inl (fun _ => 0))), (q_4, .inl (V.2.2.1, 7, .inl (fun _ => 0))), (q_5, .inl (V.2.2.1, 9, .inl (fun _ => 0)))]) rfl dX4_init_41 ?_
  refine g_aload_n X dX4_init_44 rfl ?_
  refine g_bipush X (9) dX4_init_45 (by decide) ?_
  refine g_newa X 9 ka_42 (by decide) (by decide) (by decide) (cs' := (6, 46)) rfl rfl (by decide) (by decide) dX4_init_47 (fun q_6 => ?_)
  refine g_putF X hin uwX4 tyX4 tyX4_ok nmX4 0 rfl rfl 5 (by decide) kl_X4_27 rfl rfl rfl rfl rfl (Nat.le_of_ble_eq_true rfl) gwX4 (ws' := [(h, .inr (4, [.ref q_1, .ref q_2, .ref q_3, .ref q_4, .ref q_5, .ref q_6, .null, .int 0, .int 0, .int 0, .null, .int 0])), (q_1, .inl (V.2.2.1, 7, .inl (fun _ => 0))), (q_2, .inl (V.2.2.1, 7, .inl (fun _ => 0))), (q_3, .inl (V.2.2.1, 7, .inl (fun _ => 0))), (q_4, .inl (V.2.2.1, 7, .inl (fun _ => 0))), (q_5, .inl (V.2.2.1, 9, .inl (fun _ => 0))), (q_6, .inl (V.2.2.1, 9, .inl (fun _ => 0)))]) rfl dX4_init_49 ?_
  refine g_aload_n X dX4_init_52 rfl ?_
  refine g_bipush X (9) dX4_init_53 (by decide) ?_
  refine g_newa X 9 ka_42 (by decide) (by decide) (by decide) (cs' := (7, 55)) rfl rfl (by decide) (by decide) dX4_init_55 (fun q_7 => ?_)
  refine g_putF X hin uwX4 tyX4 tyX4_ok nmX4 0 rfl rfl 6 (by decide) kl_X4_30 rfl rfl rfl rfl rfl (Nat.le_of_ble_eq_true rfl) gwX4 (ws' := [(h, .inr (4, [.ref q_1, .ref q_2, .ref q_3, .ref q_4, .ref q_5, .ref q_6, .ref q_7, .int 0, .int 0, .int 0, .null, .int 0])), (q_1, .inl (V.2.2.1, 7, .inl (fun _ => 0))), (q_2, .inl (V.2.2.1, 7, .inl (fun _ => 0))), (q_3, .inl (V.2.2.1, 7, .inl (fun _ => 0))), (q_4, .inl (V.2.2.1, 7, .inl (fun _ => 0))), (q_5, .inl (V.2.2.1, 9, .inl (fun _ => 0))), (q_6, .inl (V.2.2.1, 9, .inl (fun _ => 0))), (q_7, .inl (V.2.2.1, 9, .inl (fun _ => 0)))]) rfl dX4_init_57 ?_
  refine g_aload_n X dX4_init_60 rfl ?_
  refine g_iconst X (0) dX4_init_61 (by decide) ?_
  refine g_put X uwX4 tyX4 tyX4_ok nmX4 0 rfl rfl 7 (by decide) kl_X4_33 rfl rfl rfl rfl (Nat.le_of_ble_eq_true rfl) gwX4 (ws' := [(h, .inr (4, [.ref q_1, .ref q_2, .ref q_3, .ref q_4, .ref q_5, .ref q_6, .ref q_7, .int 0, .int 0, .int 0, .null, .int 0])), (q_1, .inl (V.2.2.1, 7, .inl (fun _ => 0))), (q_2, .inl (V.2.2.1, 7, .inl (fun _ => 0))), (q_3, .inl (V.2.2.1, 7, .inl (fun _ => 0))), (q_4, .inl (V.2.2.1, 7, .inl (fun _ => 0))), (q_5, .inl (V.2.2.1, 9, .inl (fun _ => 0))), (q_6, .inl (V.2.2.1, 9, .inl (fun _ => 0))), (q_7, .inl (V.2.2.1, 9, .inl (fun _ => 0)))]) rfl dX4_init_62 ?_
  refine g_aload_n X dX4_init_65 rfl ?_
  refine g_iconst X (0) dX4_init_66 (by decide) ?_
  refine g_put X uwX4 tyX4 tyX4_ok nmX4 0 rfl rfl 8 (by decide) kl_X4_37 rfl rfl rfl rfl (Nat.le_of_ble_eq_true rfl) gwX4 (ws' := [(h, .inr (4, [.ref q_1, .ref q_2, .ref q_3, .ref q_4, .ref q_5, .ref q_6, .ref q_7, .int 0, .int 0, .int 0, .null, .int 0])), (q_1, .inl (V.2.2.1, 7, .inl (fun _ => 0))), (q_2, .inl (V.2.2.1, 7, .inl (fun _ => 0))), (q_3, .inl (V.2.2.1, 7, .inl (fun _ => 0))), (q_4, .inl (V.2.2.1, 7, .inl (fun _ => 0))), (q_5, .inl (V.2.2.1, 9, .inl (fun _ => 0))), (q_6, .inl (V.2.2.1, 9, .inl (fun _ => 0))), (q_7, .inl (V.2.2.1, 9, .inl (fun _ => 0)))]) rfl dX4_init_67 ?_
  refine g_aload_n X dX4_init_70 rfl ?_
  refine g_iconst X (0) dX4_init_71 (by decide) ?_
  refine g_put X uwX4 tyX4 tyX4_ok nmX4 0 rfl rfl 9 (by decide) kl_X4_40 rfl rfl rfl rfl (Nat.le_of_ble_eq_true rfl) gwX4 (ws' := [(h, .inr (4, [.ref q_1, .ref q_2, .ref q_3, .ref q_4, .ref q_5, .ref q_6, .ref q_7, .int 0, .int 0, .int 0, .null, .int 0])), (q_1, .inl (V.2.2.1, 7, .inl (fun _ => 0))), (q_2, .inl (V.2.2.1, 7, .inl (fun _ => 0))), (q_3, .inl (V.2.2.1, 7, .inl (fun _ => 0))), (q_4, .inl (V.2.2.1, 7, .inl (fun _ => 0))), (q_5, .inl (V.2.2.1, 9, .inl (fun _ => 0))), (q_6, .inl (V.2.2.1, 9, .inl (fun _ => 0))), (q_7, .inl (V.2.2.1, 9, .inl (fun _ => 0)))]) rfl dX4_init_72 ?_
  refine g_aload_n X dX4_init_75 rfl ?_
  refine g_iconst X (3) dX4_init_76 (by decide) ?_
  refine g_newa X 3 ka_42 (by decide) (by decide) (by decide) (cs' := (8, 58)) rfl rfl (by decide) (by decide) dX4_init_77 (fun q_8 => ?_)
  refine g_putF X hin uwX4 tyX4 tyX4_ok nmX4 0 rfl rfl 10 (by decide) kl_X4_43 rfl rfl rfl rfl rfl (Nat.le_of_ble_eq_true rfl) gwX4 (ws' := [(h, .inr (4, [.ref q_1, .ref q_2, .ref q_3, .ref q_4, .ref q_5, .ref q_6, .ref q_7, .int 0, .int 0, .int 0, .ref q_8, .int 0])), (q_1, .inl (V.2.2.1, 7, .inl (fun _ => 0))), (q_2, .inl (V.2.2.1, 7, .inl (fun _ => 0))), (q_3, .inl (V.2.2.1, 7, .inl (fun _ => 0))), (q_4, .inl (V.2.2.1, 7, .inl (fun _ => 0))), (q_5, .inl (V.2.2.1, 9, .inl (fun _ => 0))), (q_6, .inl (V.2.2.1, 9, .inl (fun _ => 0))), (q_7, .inl (V.2.2.1, 9, .inl (fun _ => 0))), (q_8, .inl (V.2.2.1, 3, .inl (fun _ => 0)))]) rfl dX4_init_79 ?_
  refine g_aload_n X dX4_init_82 rfl ?_
  refine g_iconst X (0) dX4_init_83 (by decide) ?_
  refine g_put X uwX4 tyX4 tyX4_ok nmX4 0 rfl rfl 11 (by decide) kl_X4_46 rfl rfl rfl rfl (Nat.le_of_ble_eq_true rfl) gwX4 (ws' := [(h, .inr (4, [.ref q_1, .ref q_2, .ref q_3, .ref q_4, .ref q_5, .ref q_6, .ref q_7, .int 0, .int 0, .int 0, .ref q_8, .int 0])), (q_1, .inl (V.2.2.1, 7, .inl (fun _ => 0))), (q_2, .inl (V.2.2.1, 7, .inl (fun _ => 0))), (q_3, .inl (V.2.2.1, 7, .inl (fun _ => 0))), (q_4, .inl (V.2.2.1, 7, .inl (fun _ => 0))), (q_5, .inl (V.2.2.1, 9, .inl (fun _ => 0))), (q_6, .inl (V.2.2.1, 9, .inl (fun _ => 0))), (q_7, .inl (V.2.2.1, 9, .inl (fun _ => 0))), (q_8, .inl (V.2.2.1, 3, .inl (fun _ => 0)))]) rfl dX4_init_84 ?_
  exact g_vret X E dX4_init_87 ⟨q_1, q_2, q_3, q_4, q_5, q_6, q_7, q_8⟩ trivial rfl

set_option maxHeartbeats 4000000 in
set_option maxRecDepth 100000 in
theorem c_X5_init (V : gV) (lo : Nat)  : KC V yX5_init cX5_init 1 ({ frames := 1, cells := 1, slots := 7, locals := 20 }) [.ref lo] [(lo, .inr (5, [.null, .int 0]))] (fun u : Nat => True) (fun u => [(lo, .inr (5, [.ref u, .int (-4)])), (u, .inl (V.2.2.1, 7, .inl (fun _ => 0)))]) := by
  refine KC.of [some (.ref lo)] (by decide) rfl (Nat.le_of_ble_eq_true rfl) rfl rfl ?_
  intro Z X E hin hA
  have X : gX V Z RX5 cX5_init 1 ({ frames := 1, cells := 1, slots := 7, locals := 20 }) := X
  refine g_aload_n X dX5_init_0 rfl ?_
  refine g_obj X kl_X5_3 rfl dX5_init_1 ?_
  refine g_aload_n X dX5_init_4 rfl ?_
  refine g_bipush X (7) dX5_init_5 (by decide) ?_
  refine g_newa X 7 ka_42 (by decide) (by decide) (by decide) (cs' := (1, 7)) rfl rfl (by decide) (by decide) dX5_init_7 (fun q_1 => ?_)
  refine g_putF X hin uwX5 tyX5 tyX5_ok nmX5 0 rfl rfl 0 (by decide) kl_X5_9 rfl rfl rfl rfl rfl (Nat.le_of_ble_eq_true rfl) gwX5 (ws' := [(lo, .inr (5, [.ref q_1, .int 0])), (q_1, .inl (V.2.2.1, 7, .inl (fun _ => 0)))]) rfl dX5_init_9 ?_
  refine g_aload_n X dX5_init_12 rfl ?_
  refine g_bipush X (-4) dX5_init_13 (by decide) ?_
  refine g_put X uwX5 tyX5 tyX5_ok nmX5 0 rfl rfl 1 (by decide) kl_X5_15 rfl rfl rfl rfl (Nat.le_of_ble_eq_true rfl) gwX5 (ws' := [(lo, .inr (5, [.ref q_1, .int (-4)])), (q_1, .inl (V.2.2.1, 7, .inl (fun _ => 0)))]) rfl dX5_init_15 ?_
  exact g_vret X E dX5_init_18 q_1 trivial rfl

set_option maxHeartbeats 4000000 in
set_option maxRecDepth 100000 in
theorem c_X6_init (V : gV) (ru : Nat)  : KC V yX6_init cX6_init 1 ({ frames := 1, cells := 2, slots := 12, locals := 20 }) [.ref ru] [(ru, .inr (6, [.null, .null, .int 0]))] (fun u : Nat × Nat => True) (fun u => [(ru, .inr (6, [.ref u.1, .ref u.2, .int 0])), (u.1, .inl (V.2.2.1, 6, .inl (fun _ => 0))), (u.2, .inl (V.2.2.1, 6, .inl (fun _ => 0)))]) := by
  refine KC.of [some (.ref ru)] (by decide) rfl (Nat.le_of_ble_eq_true rfl) rfl rfl ?_
  intro Z X E hin hA
  have X : gX V Z RX6 cX6_init 1 ({ frames := 1, cells := 2, slots := 12, locals := 20 }) := X
  refine g_aload_n X dX6_init_0 rfl ?_
  refine g_obj X kl_X6_3 rfl dX6_init_1 ?_
  refine g_aload_n X dX6_init_4 rfl ?_
  refine g_bipush X (6) dX6_init_5 (by decide) ?_
  refine g_newa X 6 ka_42 (by decide) (by decide) (by decide) (cs' := (1, 6)) rfl rfl (by decide) (by decide) dX6_init_7 (fun q_1 => ?_)
  refine g_putF X hin uwX6 tyX6 tyX6_ok nmX6 0 rfl rfl 0 (by decide) kl_X6_9 rfl rfl rfl rfl rfl (Nat.le_of_ble_eq_true rfl) gwX6 (ws' := [(ru, .inr (6, [.ref q_1, .null, .int 0])), (q_1, .inl (V.2.2.1, 6, .inl (fun _ => 0)))]) rfl dX6_init_9 ?_
  refine g_aload_n X dX6_init_12 rfl ?_
  refine g_bipush X (6) dX6_init_13 (by decide) ?_
  refine g_newa X 6 ka_42 (by decide) (by decide) (by decide) (cs' := (2, 12)) rfl rfl (by decide) (by decide) dX6_init_15 (fun q_2 => ?_)
  refine g_putF X hin uwX6 tyX6 tyX6_ok nmX6 0 rfl rfl 1 (by decide) kl_X6_15 rfl rfl rfl rfl rfl (Nat.le_of_ble_eq_true rfl) gwX6 (ws' := [(ru, .inr (6, [.ref q_1, .ref q_2, .int 0])), (q_1, .inl (V.2.2.1, 6, .inl (fun _ => 0))), (q_2, .inl (V.2.2.1, 6, .inl (fun _ => 0)))]) rfl dX6_init_17 ?_
  refine g_aload_n X dX6_init_20 rfl ?_
  refine g_iconst X (0) dX6_init_21 (by decide) ?_
  refine g_put X uwX6 tyX6 tyX6_ok nmX6 0 rfl rfl 2 (by decide) kl_X6_18 rfl rfl rfl rfl (Nat.le_of_ble_eq_true rfl) gwX6 (ws' := [(ru, .inr (6, [.ref q_1, .ref q_2, .int 0])), (q_1, .inl (V.2.2.1, 6, .inl (fun _ => 0))), (q_2, .inl (V.2.2.1, 6, .inl (fun _ => 0)))]) rfl dX6_init_22 ?_
  exact g_vret X E dX6_init_25 ⟨q_1, q_2⟩ trivial rfl

set_option maxHeartbeats 4000000 in
set_option maxRecDepth 100000 in
theorem c_X8_init (V : gV) (s : Nat) (h : Nat)  : KC V yX8_init cX8_init 2 ({ frames := 1, cells := 2, slots := 14, locals := 20 }) [.ref s, .ref h] [(s, .inr (8, [.null, .null, .null, .int 0]))] (fun u : Nat × Nat => True) (fun u => [(s, .inr (8, [.ref h, .ref u.1, .ref u.2, .int 0])), (u.1, .inl (V.2.2.1, 7, .inl (fun _ => 0))), (u.2, .inl (V.2.2.1, 7, .inl (fun _ => 0)))]) := by
  refine KC.of [some (.ref s), some (.ref h)] (by decide) rfl (Nat.le_of_ble_eq_true rfl) rfl rfl ?_
  intro Z X E hin hA
  have X : gX V Z RX8 cX8_init 2 ({ frames := 1, cells := 2, slots := 14, locals := 20 }) := X
  refine g_aload_n X dX8_init_0 rfl ?_
  refine g_obj X kl_X8_3 rfl dX8_init_1 ?_
  refine g_aload_n X dX8_init_4 rfl ?_
  refine g_bipush X (7) dX8_init_5 (by decide) ?_
  refine g_newa X 7 ka_42 (by decide) (by decide) (by decide) (cs' := (1, 7)) rfl rfl (by decide) (by decide) dX8_init_7 (fun q_1 => ?_)
  refine g_putF X hin uwX8 tyX8 tyX8_ok nmX8 0 rfl rfl 1 (by decide) kl_X8_9 rfl rfl rfl rfl rfl (Nat.le_of_ble_eq_true rfl) gwX8 (ws' := [(s, .inr (8, [.null, .ref q_1, .null, .int 0])), (q_1, .inl (V.2.2.1, 7, .inl (fun _ => 0)))]) rfl dX8_init_9 ?_
  refine g_aload_n X dX8_init_12 rfl ?_
  refine g_bipush X (7) dX8_init_13 (by decide) ?_
  refine g_newa X 7 ka_42 (by decide) (by decide) (by decide) (cs' := (2, 14)) rfl rfl (by decide) (by decide) dX8_init_15 (fun q_2 => ?_)
  refine g_putF X hin uwX8 tyX8 tyX8_ok nmX8 0 rfl rfl 2 (by decide) kl_X8_15 rfl rfl rfl rfl rfl (Nat.le_of_ble_eq_true rfl) gwX8 (ws' := [(s, .inr (8, [.null, .ref q_1, .ref q_2, .int 0])), (q_1, .inl (V.2.2.1, 7, .inl (fun _ => 0))), (q_2, .inl (V.2.2.1, 7, .inl (fun _ => 0)))]) rfl dX8_init_17 ?_
  refine g_aload_n X dX8_init_20 rfl ?_
  refine g_iconst X (0) dX8_init_21 (by decide) ?_
  refine g_put X uwX8 tyX8 tyX8_ok nmX8 0 rfl rfl 3 (by decide) kl_X8_18 rfl rfl rfl rfl (Nat.le_of_ble_eq_true rfl) gwX8 (ws' := [(s, .inr (8, [.null, .ref q_1, .ref q_2, .int 0])), (q_1, .inl (V.2.2.1, 7, .inl (fun _ => 0))), (q_2, .inl (V.2.2.1, 7, .inl (fun _ => 0)))]) rfl dX8_init_22 ?_
  refine g_aload_n X dX8_init_25 rfl ?_
  refine g_aload_n X dX8_init_26 rfl ?_
  refine g_putF X hin uwX8 tyX8 tyX8_ok nmX8 0 rfl rfl 0 (by decide) kl_X8_22 rfl rfl rfl rfl rfl (Nat.le_of_ble_eq_true rfl) gwX8 (ws' := [(s, .inr (8, [.ref h, .ref q_1, .ref q_2, .int 0])), (q_1, .inl (V.2.2.1, 7, .inl (fun _ => 0))), (q_2, .inl (V.2.2.1, 7, .inl (fun _ => 0)))]) rfl dX8_init_27 ?_
  exact g_vret X E dX8_init_30 ⟨q_1, q_2⟩ trivial rfl

set_option maxHeartbeats 4000000 in
set_option maxRecDepth 100000 in
theorem c_X9_init (V : gV) (t : Nat)  : KC V yX9_init cX9_init 1 ({ frames := 1, cells := 1, slots := 200, locals := 20 }) [.ref t] [(t, .inr (9, [.null, .int 0]))] (fun u : Nat => True) (fun u => [(t, .inr (9, [.ref u, .int 0])), (u, .inl (V.2.2.1, 200, .inl (fun _ => 0)))]) := by
  refine KC.of [some (.ref t)] (by decide) rfl (Nat.le_of_ble_eq_true rfl) rfl rfl ?_
  intro Z X E hin hA
  have X : gX V Z RX9 cX9_init 1 ({ frames := 1, cells := 1, slots := 200, locals := 20 }) := X
  refine g_aload_n X dX9_init_0 rfl ?_
  refine g_obj X kl_X9_3 rfl dX9_init_1 ?_
  refine g_aload_n X dX9_init_4 rfl ?_
  refine g_sipush X (200) dX9_init_5 (by decide) ?_
  refine g_newa X 200 ka_42 (by decide) (by decide) (by decide) (cs' := (1, 200)) rfl rfl (by decide) (by decide) dX9_init_8 (fun q_1 => ?_)
  refine g_putF X hin uwX9 tyX9 tyX9_ok nmX9 0 rfl rfl 0 (by decide) kl_X9_9 rfl rfl rfl rfl rfl (Nat.le_of_ble_eq_true rfl) gwX9 (ws' := [(t, .inr (9, [.ref q_1, .int 0])), (q_1, .inl (V.2.2.1, 200, .inl (fun _ => 0)))]) rfl dX9_init_10 ?_
  refine g_aload_n X dX9_init_13 rfl ?_
  refine g_iconst X (0) dX9_init_14 (by decide) ?_
  refine g_put X uwX9 tyX9 tyX9_ok nmX9 0 rfl rfl 1 (by decide) kl_X9_15 rfl rfl rfl rfl (Nat.le_of_ble_eq_true rfl) gwX9 (ws' := [(t, .inr (9, [.ref q_1, .int 0])), (q_1, .inl (V.2.2.1, 200, .inl (fun _ => 0)))]) rfl dX9_init_15 ?_
  exact g_vret X E dX9_init_18 q_1 trivial rfl

set_option maxHeartbeats 4000000 in
set_option maxRecDepth 100000 in
theorem c_X0_init (V : gV) (br : Nat)  : KC V yX0_init cX0_init 1 ({ frames := 2, cells := 6, slots := 33, locals := 40 }) [.ref br] [(br, .inr (0, [.null, .null, .null]))] (fun u : Nat × Nat × Nat × Nat × Nat × Nat => True) (fun u => [(br, .inr (0, [.ref u.1, .ref u.2.2.2.1, .ref u.2.2.2.2.1])), (u.1, .inr (2, [.ref u.2.1, .ref u.2.2.1, .int 0])), (u.2.1, .inl (V.2.2.1, 7, .inl (fun _ => 0))), (u.2.2.1, .inl (V.2.2.1, 7, .inl (fun _ => 0))), (u.2.2.2.1, .inl (V.2.2.1, 7, .inl (fun _ => 0))), (u.2.2.2.2.1, .inr (5, [.ref u.2.2.2.2.2, .int (-4)])), (u.2.2.2.2.2, .inl (V.2.2.1, 7, .inl (fun _ => 0)))]) := by
  refine KC.of [some (.ref br)] (by decide) rfl (Nat.le_of_ble_eq_true rfl) rfl rfl ?_
  intro Z X E hin hA
  have X : gX V Z RX0 cX0_init 1 ({ frames := 2, cells := 6, slots := 33, locals := 40 }) := X
  refine g_aload_n X dX0_init_0 rfl ?_
  refine g_obj X kl_X0_3 rfl dX0_init_1 ?_
  refine g_aload_n X dX0_init_4 rfl ?_
  refine g_new X uwX2 gwX2 tyX2 tyX2_ok kl_X0_9 kq_X2 kn_X2 (ci := 2) rfl [.null, .null, .int 0] (fun j hj => by rcases j with _ | j; exact rfl; rcases j with _ | j; exact rfl; rcases j with _ | j; exact rfl; omega) (cs' := (1, 3)) rfl rfl (by decide) (by decide) dX0_init_5 (fun q_1 => ?_)
  refine g_dup X dX0_init_8 rfl ?_
  refine g_callKJ X hA (c_X2_init V q_1) mo_X2_init kl_X0_11 [1] [0, 1] rfl (by decide +kernel) rfl rfl (fun _ => Nat.le_of_ble_eq_true rfl) (As := []) (st := [.ref q_1, .ref br]) (cs' := (3, 17)) rfl rfl rfl rfl dX0_init_9 (fun u_2 hp_3 ws_5 hw_4 => ?_)
  obtain ⟨q_7, q2_8⟩ := u_2
  have hw_4x : ws_5 = [(br, .inr (0, [.null, .null, .null])), (q_1, .inr (2, [.ref q_7, .ref q2_8, .int 0])), (q_7, .inl (V.2.2.1, 7, .inl (fun _ => 0))), (q2_8, .inl (V.2.2.1, 7, .inl (fun _ => 0)))] := hw_4.symm
  clear hw_4; subst hw_4x
  refine g_putF X hin uwX0 tyX0 tyX0_ok nmX0 0 rfl rfl 0 (by decide) kl_X0_12 rfl rfl rfl rfl rfl (Nat.le_of_ble_eq_true rfl) gwX0 (ws' := [(br, .inr (0, [.ref q_1, .null, .null])), (q_1, .inr (2, [.ref q_7, .ref q2_8, .int 0])), (q_7, .inl (V.2.2.1, 7, .inl (fun _ => 0))), (q2_8, .inl (V.2.2.1, 7, .inl (fun _ => 0)))]) rfl dX0_init_12 ?_
  refine g_aload_n X dX0_init_15 rfl ?_
  refine g_bipush X (7) dX0_init_16 (by decide) ?_
  refine g_newa X 7 ka_42 (by decide) (by decide) (by decide) (cs' := (4, 24)) rfl rfl (by decide) (by decide) dX0_init_18 (fun q_9 => ?_)
  refine g_putF X hin uwX0 tyX0 tyX0_ok nmX0 0 rfl rfl 1 (by decide) kl_X0_18 rfl rfl rfl rfl rfl (Nat.le_of_ble_eq_true rfl) gwX0 (ws' := [(br, .inr (0, [.ref q_1, .ref q_9, .null])), (q_1, .inr (2, [.ref q_7, .ref q2_8, .int 0])), (q_7, .inl (V.2.2.1, 7, .inl (fun _ => 0))), (q2_8, .inl (V.2.2.1, 7, .inl (fun _ => 0))), (q_9, .inl (V.2.2.1, 7, .inl (fun _ => 0)))]) rfl dX0_init_20 ?_
  refine g_aload_n X dX0_init_23 rfl ?_
  refine g_new X uwX5 gwX5 tyX5 tyX5_ok kl_X0_22 kq_X5 kn_X5 (ci := 5) rfl [.null, .int 0] (fun j hj => by rcases j with _ | j; exact rfl; rcases j with _ | j; exact rfl; omega) (cs' := (5, 26)) rfl rfl (by decide) (by decide) dX0_init_24 (fun q_10 => ?_)
  refine g_dup X dX0_init_27 rfl ?_
  refine g_callKJ X hA (c_X5_init V q_10) mo_X5_init kl_X0_24 [5] [0, 0, 0, 0, 0, 1] rfl (by decide +kernel) rfl rfl (fun _ => Nat.le_of_ble_eq_true rfl) (As := []) (st := [.ref q_10, .ref br]) (cs' := (6, 33)) rfl rfl rfl rfl dX0_init_28 (fun q_11 hp_12 ws_14 hw_13 => ?_)
  have hw_13x : ws_14 = [(br, .inr (0, [.ref q_1, .ref q_9, .null])), (q_1, .inr (2, [.ref q_7, .ref q2_8, .int 0])), (q_7, .inl (V.2.2.1, 7, .inl (fun _ => 0))), (q2_8, .inl (V.2.2.1, 7, .inl (fun _ => 0))), (q_9, .inl (V.2.2.1, 7, .inl (fun _ => 0))), (q_10, .inr (5, [.ref q_11, .int (-4)])), (q_11, .inl (V.2.2.1, 7, .inl (fun _ => 0)))] := hw_13.symm
  clear hw_13; subst hw_13x
  refine g_putF X hin uwX0 tyX0 tyX0_ok nmX0 0 rfl rfl 2 (by decide) kl_X0_25 rfl rfl rfl rfl rfl (Nat.le_of_ble_eq_true rfl) gwX0 (ws' := [(br, .inr (0, [.ref q_1, .ref q_9, .ref q_10])), (q_1, .inr (2, [.ref q_7, .ref q2_8, .int 0])), (q_7, .inl (V.2.2.1, 7, .inl (fun _ => 0))), (q2_8, .inl (V.2.2.1, 7, .inl (fun _ => 0))), (q_9, .inl (V.2.2.1, 7, .inl (fun _ => 0))), (q_10, .inr (5, [.ref q_11, .int (-4)])), (q_11, .inl (V.2.2.1, 7, .inl (fun _ => 0)))]) rfl dX0_init_31 ?_
  exact g_vret X E dX0_init_34 ⟨q_1, q_7, q2_8, q_9, q_10, q_11⟩ trivial rfl

set_option maxHeartbeats 4000000 in
set_option maxRecDepth 100000 in
theorem c_X1_init (V : gV) (br : Nat)  : KC V yX1_init cX1_init 1 ({ frames := 2, cells := 6, slots := 33, locals := 40 }) [.ref br] [(br, .inr (1, [.null, .null, .null]))] (fun u : Nat × Nat × Nat × Nat × Nat × Nat => True) (fun u => [(br, .inr (1, [.ref u.1, .ref u.2.2.2.1, .ref u.2.2.2.2.1])), (u.1, .inr (2, [.ref u.2.1, .ref u.2.2.1, .int 0])), (u.2.1, .inl (V.2.2.1, 7, .inl (fun _ => 0))), (u.2.2.1, .inl (V.2.2.1, 7, .inl (fun _ => 0))), (u.2.2.2.1, .inl (V.2.2.1, 7, .inl (fun _ => 0))), (u.2.2.2.2.1, .inr (5, [.ref u.2.2.2.2.2, .int (-4)])), (u.2.2.2.2.2, .inl (V.2.2.1, 7, .inl (fun _ => 0)))]) := by
  refine KC.of [some (.ref br)] (by decide) rfl (Nat.le_of_ble_eq_true rfl) rfl rfl ?_
  intro Z X E hin hA
  have X : gX V Z RX1 cX1_init 1 ({ frames := 2, cells := 6, slots := 33, locals := 40 }) := X
  refine g_aload_n X dX1_init_0 rfl ?_
  refine g_obj X kl_X1_3 rfl dX1_init_1 ?_
  refine g_aload_n X dX1_init_4 rfl ?_
  refine g_new X uwX2 gwX2 tyX2 tyX2_ok kl_X1_9 kq_X2 kn_X2 (ci := 2) rfl [.null, .null, .int 0] (fun j hj => by rcases j with _ | j; exact rfl; rcases j with _ | j; exact rfl; rcases j with _ | j; exact rfl; omega) (cs' := (1, 3)) rfl rfl (by decide) (by decide) dX1_init_5 (fun q_1 => ?_)
  refine g_dup X dX1_init_8 rfl ?_
  refine g_callKJ X hA (c_X2_init V q_1) mo_X2_init kl_X1_11 [1] [0, 1] rfl (by decide +kernel) rfl rfl (fun _ => Nat.le_of_ble_eq_true rfl) (As := []) (st := [.ref q_1, .ref br]) (cs' := (3, 17)) rfl rfl rfl rfl dX1_init_9 (fun u_2 hp_3 ws_5 hw_4 => ?_)
  obtain ⟨q_7, q2_8⟩ := u_2
  have hw_4x : ws_5 = [(br, .inr (1, [.null, .null, .null])), (q_1, .inr (2, [.ref q_7, .ref q2_8, .int 0])), (q_7, .inl (V.2.2.1, 7, .inl (fun _ => 0))), (q2_8, .inl (V.2.2.1, 7, .inl (fun _ => 0)))] := hw_4.symm
  clear hw_4; subst hw_4x
  refine g_putF X hin uwX1 tyX1 tyX1_ok nmX1 0 rfl rfl 0 (by decide) kl_X1_12 rfl rfl rfl rfl rfl (Nat.le_of_ble_eq_true rfl) gwX1 (ws' := [(br, .inr (1, [.ref q_1, .null, .null])), (q_1, .inr (2, [.ref q_7, .ref q2_8, .int 0])), (q_7, .inl (V.2.2.1, 7, .inl (fun _ => 0))), (q2_8, .inl (V.2.2.1, 7, .inl (fun _ => 0)))]) rfl dX1_init_12 ?_
  refine g_aload_n X dX1_init_15 rfl ?_
  refine g_bipush X (7) dX1_init_16 (by decide) ?_
  refine g_newa X 7 ka_42 (by decide) (by decide) (by decide) (cs' := (4, 24)) rfl rfl (by decide) (by decide) dX1_init_18 (fun q_9 => ?_)
  refine g_putF X hin uwX1 tyX1 tyX1_ok nmX1 0 rfl rfl 1 (by decide) kl_X1_18 rfl rfl rfl rfl rfl (Nat.le_of_ble_eq_true rfl) gwX1 (ws' := [(br, .inr (1, [.ref q_1, .ref q_9, .null])), (q_1, .inr (2, [.ref q_7, .ref q2_8, .int 0])), (q_7, .inl (V.2.2.1, 7, .inl (fun _ => 0))), (q2_8, .inl (V.2.2.1, 7, .inl (fun _ => 0))), (q_9, .inl (V.2.2.1, 7, .inl (fun _ => 0)))]) rfl dX1_init_20 ?_
  refine g_aload_n X dX1_init_23 rfl ?_
  refine g_new X uwX5 gwX5 tyX5 tyX5_ok kl_X1_22 kq_X5 kn_X5 (ci := 5) rfl [.null, .int 0] (fun j hj => by rcases j with _ | j; exact rfl; rcases j with _ | j; exact rfl; omega) (cs' := (5, 26)) rfl rfl (by decide) (by decide) dX1_init_24 (fun q_10 => ?_)
  refine g_dup X dX1_init_27 rfl ?_
  refine g_callKJ X hA (c_X5_init V q_10) mo_X5_init kl_X1_24 [5] [0, 0, 0, 0, 0, 1] rfl (by decide +kernel) rfl rfl (fun _ => Nat.le_of_ble_eq_true rfl) (As := []) (st := [.ref q_10, .ref br]) (cs' := (6, 33)) rfl rfl rfl rfl dX1_init_28 (fun q_11 hp_12 ws_14 hw_13 => ?_)
  have hw_13x : ws_14 = [(br, .inr (1, [.ref q_1, .ref q_9, .null])), (q_1, .inr (2, [.ref q_7, .ref q2_8, .int 0])), (q_7, .inl (V.2.2.1, 7, .inl (fun _ => 0))), (q2_8, .inl (V.2.2.1, 7, .inl (fun _ => 0))), (q_9, .inl (V.2.2.1, 7, .inl (fun _ => 0))), (q_10, .inr (5, [.ref q_11, .int (-4)])), (q_11, .inl (V.2.2.1, 7, .inl (fun _ => 0)))] := hw_13.symm
  clear hw_13; subst hw_13x
  refine g_putF X hin uwX1 tyX1 tyX1_ok nmX1 0 rfl rfl 2 (by decide) kl_X1_25 rfl rfl rfl rfl rfl (Nat.le_of_ble_eq_true rfl) gwX1 (ws' := [(br, .inr (1, [.ref q_1, .ref q_9, .ref q_10])), (q_1, .inr (2, [.ref q_7, .ref q2_8, .int 0])), (q_7, .inl (V.2.2.1, 7, .inl (fun _ => 0))), (q2_8, .inl (V.2.2.1, 7, .inl (fun _ => 0))), (q_9, .inl (V.2.2.1, 7, .inl (fun _ => 0))), (q_10, .inr (5, [.ref q_11, .int (-4)])), (q_11, .inl (V.2.2.1, 7, .inl (fun _ => 0)))]) rfl dX1_init_31 ?_
  exact g_vret X E dX1_init_34 ⟨q_1, q_7, q2_8, q_9, q_10, q_11⟩ trivial rfl

set_option maxHeartbeats 4000000 in
set_option maxRecDepth 100000 in
theorem c_J3_check (V : gV) (i : Nat) (n : Nat) (fo : Option Nat) (hi : i < n) (hn : n < 2147483648) : Ki V yJ3_checkIndex_8e157 cJ3_checkIndex_8e157 3 .int ({ frames := 0, cells := 0, slots := 0, locals := 0 }) [.int (nI i), .int (nI n), va_rf fo] [] (fun (r : Int32) (u : Unit) => r = nI i) (fun u => []) := by
  refine Ki.of [some (.int (nI i)), some (.int (nI n)), some (va_rf fo)] (by decide) (by cases fo <;> exact Nat.le_of_ble_eq_true rfl) (by cases fo <;> rfl) rfl ?_
  intro Z X E
  have X : gX V Z RJ3 cJ3_checkIndex_8e157 3 ({ frames := 0, cells := 0, slots := 0, locals := 0 }) := X
  refine g_iload_n X dJ3_checkIndex_8e157_0 rfl ?_
  refine g_if_lt X 9 dJ3_checkIndex_8e157_1 (by decide) (fun c1_1 => absurd c1_1 (flt (a := i) (b := 0) (by omega) (by omega) (by omega))) (fun c1_1 => ?_)
  refine g_iload_n X dJ3_checkIndex_8e157_4 rfl ?_
  refine g_iload_n X dJ3_checkIndex_8e157_5 rfl ?_
  refine g_icmp_lt X 16 dJ3_checkIndex_8e157_6 (by decide) (fun c6_2 => ?_) (fun c6_2 => absurd (tlt (a := i) (b := n) (by omega) (by omega) (by omega)) c6_2)
  refine g_iload_n X dJ3_checkIndex_8e157_16 rfl ?_
  exact g_iret X E dJ3_checkIndex_8e157_17 () (nI i) (by first | rfl | (simp [c1_1, c6_2]; done)) rfl

set_option maxHeartbeats 4000000 in
set_option maxRecDepth 100000 in
theorem c_J0_check (V : gV) (ka : Nat) (va : Nat) (fo : Option Nat) (i : Nat) (hi : i < 97) : KSv V (ka, va, fo) yJ0_checkIndex_df160 cJ0_checkIndex_df160 2 ({ frames := 1, cells := 0, slots := 0, locals := 22 }) [.int (nI i), .int 97] [] (fun u : Unit => True) (fun u => []) := by
  refine KSv.of [some (.int (nI i)), some (.int 97)] (by decide) (Nat.le_of_ble_eq_true rfl) rfl rfl ?_
  intro Z X E hin0 hK
  have X : gX V Z RJ0 cJ0_checkIndex_df160 2 ({ frames := 1, cells := 0, slots := 0, locals := 22 }) := X
  refine g_iload_n X dJ0_checkIndex_df160_0 rfl ?_
  refine g_iload_n X dJ0_checkIndex_df160_1 rfl ?_
  refine g_gets X E.2.1 hK.2.2.2.2.2.2.1 kl_J0_1053 dJ0_checkIndex_df160_2 ?_
  refine g_callSi X (c_J3_check V i 97 fo (by omega) (by decide)) mo_J3_checkIndex_8e157 kl_J0_1059 [] [] rfl (by decide +kernel) rfl rfl (fun _ => Nat.le_of_ble_eq_true rfl) (As := [.int (nI i), .int 97, va_rf fo]) (st := []) (cs' := (0, 0)) rfl rfl rfl dJ0_checkIndex_df160_5 (fun r_5 u_1 hp_2 ws_4 hw_3 => ?_)
  obtain rfl : r_5 = nI i := hp_2
  have hw_3x : ws_4 = [] := hw_3.symm
  clear hw_3; subst hw_3x
  refine g_pop X dJ0_checkIndex_df160_8 rfl ?_
  exact g_vret X E dJ0_checkIndex_df160_9 () trivial rfl

set_option maxHeartbeats 4000000 in
set_option maxRecDepth 100000 in
theorem c_J1_charAt (V : gV) (ka : Nat) (va : Nat) (fo : Option Nat) (i : Nat) (hi : i < 97) : KSi V (ka, va, fo) yJ1_charAt_3b067 cJ1_charAt_3b067 2 .char ({ frames := 2, cells := 0, slots := 0, locals := 43 }) [.ref va, .int (nI i)] [] (fun (r : Int32) (u : Unit) => r = lts.getD i 0) (fun u => []) := by
  refine KSi.of [some (.ref va), some (.int (nI i))] (by decide) (Nat.le_of_ble_eq_true rfl) rfl rfl ?_
  intro Z X E hK
  have X : gX V Z RJ1 cJ1_charAt_3b067 2 ({ frames := 2, cells := 0, slots := 0, locals := 43 }) := X
  refine g_iload_n X dJ1_charAt_3b067_0 rfl ?_
  refine g_aload_n X dJ1_charAt_3b067_1 rfl ?_
  refine g_tlen X E.2.1 hK.2.2.2.2.1 97 rfl dJ1_charAt_3b067_2 ?_
  refine g_callTv X E.2.1 hK (c_J0_check V ka va fo i (by omega)) mo_J0_checkIndex_df160 kl_J1_9 [] [] rfl (by decide +kernel) rfl rfl (fun _ => Nat.le_of_ble_eq_true rfl) (As := [.int (nI i), .int 97]) (st := []) (cs' := (0, 0)) rfl rfl rfl dJ1_charAt_3b067_3 (fun u_1 hp_2 ws_4 hw_3 => ?_)
  have hw_3x : ws_4 = [] := hw_3.symm
  clear hw_3; subst hw_3x
  refine g_aload_n X dJ1_charAt_3b067_6 rfl ?_
  refine g_iload_n X dJ1_charAt_3b067_7 rfl ?_
  refine g_tb X E.2.1 hK.2.2.2.2.1 (vpin_nI (by omega) (by decide)) (.int (lts.getD i 0)) (by rw [clampNeg_nI (by omega)]) dJ1_charAt_3b067_8 ?_
  refine g_sipush X (255) dJ1_charAt_3b067_9 (by decide) ?_
  refine g_iand X dJ1_charAt_3b067_12 ?_
  refine g_i2c X (lts.getD i 0) dJ1_charAt_3b067_13 (lts_ok i hi).1.1 ?_
  exact g_zret X E dJ1_charAt_3b067_14 () (lts.getD i 0) (lts_ok i hi).1.2 (by first | rfl | (simp []; done)) rfl

set_option maxHeartbeats 4000000 in
set_option maxRecDepth 100000 in
theorem c_J0_coder (V : gV) (ka : Nat) (va : Nat) (fo : Option Nat)  : KSi V (ka, va, fo) yJ0_coder_7d493 cJ0_coder_7d493 1 .byte ({ frames := 0, cells := 0, slots := 0, locals := 0 }) [.ref ka] [] (fun (r : Int32) (u : Unit) => r = 0) (fun u => []) := by
  refine KSi.of [some (.ref ka)] (by decide) (Nat.le_of_ble_eq_true rfl) rfl rfl ?_
  intro Z X E hK
  have X : gX V Z RJ0 cJ0_coder_7d493 1 ({ frames := 0, cells := 0, slots := 0, locals := 0 }) := X
  refine g_gets X E.2.1 hK.2.2.2.2.2.1 kl_J0_38 dJ0_coder_7d493_0 ?_
  refine g_if_eq X 13 dJ0_coder_7d493_3 (by decide) (fun c3_1 => absurd c3_1 (by decide)) (fun c3_1 => ?_)
  refine g_aload_n X dJ0_coder_7d493_6 rfl ?_
  refine g_getc X E.2.1 hK.2.2.1 kl_J0_15 dJ0_coder_7d493_7 ?_
  refine g_goto X 14 dJ0_coder_7d493_10 (by decide) ?_
  exact g_zret X E dJ0_coder_7d493_14 () 0 rfl (by first | rfl | (simp [c3_1]; done)) rfl

set_option maxHeartbeats 4000000 in
set_option maxRecDepth 100000 in
theorem c_J0_length (V : gV) (ka : Nat) (va : Nat) (fo : Option Nat)  : KSi V (ka, va, fo) yJ0_length_8abf5 cJ0_length_8abf5 1 .int ({ frames := 1, cells := 0, slots := 0, locals := 20 }) [.ref ka] [] (fun (r : Int32) (u : Unit) => r = 97) (fun u => []) := by
  refine KSi.of [some (.ref ka)] (by decide) (Nat.le_of_ble_eq_true rfl) rfl rfl ?_
  intro Z X E hK
  have X : gX V Z RJ0 cJ0_length_8abf5 1 ({ frames := 1, cells := 0, slots := 0, locals := 20 }) := X
  refine g_aload_n X dJ0_length_8abf5_0 rfl ?_
  refine g_getc X E.2.1 hK.2.2.2.1 kl_J0_9 dJ0_length_8abf5_1 ?_
  refine g_tlen X E.2.1 hK.2.2.2.2.1 97 rfl dJ0_length_8abf5_4 ?_
  refine g_aload_n X dJ0_length_8abf5_5 rfl ?_
  refine g_callTV X E.2.1 hK (c_J0_coder V ka va fo) mo_J0_coder_7d493 kl_J0_335 [] [] rfl (by decide +kernel) rfl rfl (fun _ => Nat.le_of_ble_eq_true rfl) rfl (As := []) (st := [.int 97]) (cs' := (0, 0)) rfl rfl rfl rfl dJ0_length_8abf5_6 (fun r_5 u_1 hp_2 ws_4 hw_3 => ?_)
  obtain rfl : r_5 = 0 := hp_2
  have hw_3x : ws_4 = [] := hw_3.symm
  clear hw_3; subst hw_3x
  refine g_ishr X dJ0_length_8abf5_9 ?_
  refine g_toe (x' := 97) (by decide) ?_
  exact g_iret X E dJ0_length_8abf5_10 () 97 (by first | rfl | (simp []; done)) rfl

set_option maxHeartbeats 4000000 in
set_option maxRecDepth 100000 in
theorem c_J0_isLatin1 (V : gV) (ka : Nat) (va : Nat) (fo : Option Nat)  : KSi V (ka, va, fo) yJ0_isLatin1_aae02 cJ0_isLatin1_aae02 1 .boolean ({ frames := 0, cells := 0, slots := 0, locals := 0 }) [.ref ka] [] (fun (r : Int32) (u : Unit) => r = 1) (fun u => []) := by
  refine KSi.of [some (.ref ka)] (by decide) (Nat.le_of_ble_eq_true rfl) rfl rfl ?_
  intro Z X E hK
  have X : gX V Z RJ0 cJ0_isLatin1_aae02 1 ({ frames := 0, cells := 0, slots := 0, locals := 0 }) := X
  refine g_gets X E.2.1 hK.2.2.2.2.2.1 kl_J0_38 dJ0_isLatin1_aae02_0 ?_
  refine g_if_eq X 17 dJ0_isLatin1_aae02_3 (by decide) (fun c3_1 => absurd c3_1 (by decide)) (fun c3_1 => ?_)
  refine g_aload_n X dJ0_isLatin1_aae02_6 rfl ?_
  refine g_getc X E.2.1 hK.2.2.1 kl_J0_15 dJ0_isLatin1_aae02_7 ?_
  refine g_if_ne X 17 dJ0_isLatin1_aae02_10 (by decide) (fun c10_2 => absurd (by decide) c10_2) (fun c10_2 => ?_)
  refine g_iconst X (1) dJ0_isLatin1_aae02_13 (by decide) ?_
  refine g_goto X 18 dJ0_isLatin1_aae02_14 (by decide) ?_
  exact g_zret X E dJ0_isLatin1_aae02_18 () 1 rfl (by first | rfl | (simp [c3_1, c10_2]; done)) rfl

set_option maxHeartbeats 4000000 in
set_option maxRecDepth 100000 in
theorem c_J0_charAt (V : gV) (ka : Nat) (va : Nat) (fo : Option Nat) (i : Nat) (hi : i < 97) : KSi V (ka, va, fo) yJ0_charAt_5068e cJ0_charAt_5068e 2 .char ({ frames := 3, cells := 0, slots := 0, locals := 64 }) [.ref ka, .int (nI i)] [] (fun (r : Int32) (u : Unit) => r = lts.getD i 0) (fun u => []) := by
  refine KSi.of [some (.ref ka), some (.int (nI i))] (by decide) (Nat.le_of_ble_eq_true rfl) rfl rfl ?_
  intro Z X E hK
  have X : gX V Z RJ0 cJ0_charAt_5068e 2 ({ frames := 3, cells := 0, slots := 0, locals := 64 }) := X
  refine g_aload_n X dJ0_charAt_5068e_0 rfl ?_
  refine g_callTV X E.2.1 hK (c_J0_isLatin1 V ka va fo) mo_J0_isLatin1_aae02 kl_J0_492 [] [] rfl (by decide +kernel) rfl rfl (fun _ => Nat.le_of_ble_eq_true rfl) rfl (As := []) (st := []) (cs' := (0, 0)) rfl rfl rfl rfl dJ0_charAt_5068e_1 (fun r_5 u_1 hp_2 ws_4 hw_3 => ?_)
  obtain rfl : r_5 = 1 := hp_2
  have hw_3x : ws_4 = [] := hw_3.symm
  clear hw_3; subst hw_3x
  refine g_if_eq X 16 dJ0_charAt_5068e_4 (by decide) (fun c4_6 => absurd c4_6 (by decide)) (fun c4_6 => ?_)
  refine g_aload_n X dJ0_charAt_5068e_7 rfl ?_
  refine g_getc X E.2.1 hK.2.2.2.1 kl_J0_9 dJ0_charAt_5068e_8 ?_
  refine g_iload_n X dJ0_charAt_5068e_11 rfl ?_
  refine g_callTi X E.2.1 hK (c_J1_charAt V ka va fo i (by omega)) mo_J1_charAt_3b067 kl_J0_495 [] [] rfl (by decide +kernel) rfl rfl (fun _ => Nat.le_of_ble_eq_true rfl) (As := [.ref va, .int (nI i)]) (st := []) (cs' := (0, 0)) rfl rfl rfl dJ0_charAt_5068e_12 (fun r_11 u_7 hp_8 ws_10 hw_9 => ?_)
  obtain rfl : r_11 = lts.getD i 0 := hp_8
  have hw_9x : ws_10 = [] := hw_9.symm
  clear hw_9; subst hw_9x
  exact g_zret X E dJ0_charAt_5068e_15 () (lts.getD i 0) (lts_ok i hi).1.2 (by first | rfl | (simp [c4_6]; done)) rfl
