set_option maxHeartbeats 4000000 in
set_option maxRecDepth 100000 in
theorem c_X4_takeItem_ok (V : gV) (h : Nat) (hk : Nat) (hfw : Nat) (hfg : Nat) (hwb : Nat) (hld : Nat) (hte : Nat) (hpu : Nat) (hnu : Nat) (n : Nat) (hwa : Int32) (m : Nat) (to : Nat) (k : Nat → Int32) (fw : Nat → Int32) (fg : Nat → Int32) (wb : Nat → Int32) (ld : Nat → Nat) (te : Nat → Nat) (pu : Nat → Nat) (nu : Nat → Nat) (l : Nat) (hn : n ≤ 7) (hm : m ≤ 9) (hok : itemOK l to nu n m) (hb_l : l < 1000) (hto : to ≤ 3) : Ki V yX4_takeItem cX4_takeItem 5 .boolean ({ frames := 3, cells := 0, slots := 0, locals := 66 }) [.ref h, .int (nI l)] [(h, .inr (4, [.ref hk, .ref hfw, .ref hfg, .ref hwb, .ref hld, .ref hte, .ref hpu, .int (nI n), .int hwa, .int (nI m), .ref hnu, .int (nI to)])), (hk, .inl (V.2.2.1, 7, .inl k)), (hfw, .inl (V.2.2.1, 7, .inl fw)), (hfg, .inl (V.2.2.1, 7, .inl fg)), (hwb, .inl (V.2.2.1, 7, .inl wb)), (hld, .inl (V.2.2.1, 9, .inl (nIf ld))), (hte, .inl (V.2.2.1, 9, .inl (nIf te))), (hpu, .inl (V.2.2.1, 9, .inl (nIf pu))), (hnu, .inl (V.2.2.1, 3, .inl (nIf nu)))] (fun (r : Int32) (u : Nat × Int32 × Nat × (Nat → Int32) × (Nat → Int32) × (Nat → Int32) × (Nat → Int32) × (Nat → Nat) × (Nat → Nat) × (Nat → Nat)) => r = 1 ∧ u.1 = (itemF l nu (n, hwa, m, k, fw, fg, wb, ld, te, pu)).1 ∧ u.2.1 = (itemF l nu (n, hwa, m, k, fw, fg, wb, ld, te, pu)).2.1 ∧ u.2.2.1 = (itemF l nu (n, hwa, m, k, fw, fg, wb, ld, te, pu)).2.2.1 ∧ u.2.2.2.1 = (itemF l nu (n, hwa, m, k, fw, fg, wb, ld, te, pu)).2.2.2.1 ∧ u.2.2.2.2.1 = (itemF l nu (n, hwa, m, k, fw, fg, wb, ld, te, pu)).2.2.2.2.1 ∧ u.2.2.2.2.2.1 = (itemF l nu (n, hwa, m, k, fw, fg, wb, ld, te, pu)).2.2.2.2.2.1 ∧ u.2.2.2.2.2.2.1 = (itemF l nu (n, hwa, m, k, fw, fg, wb, ld, te, pu)).2.2.2.2.2.2.1 ∧ u.2.2.2.2.2.2.2.1 = (itemF l nu (n, hwa, m, k, fw, fg, wb, ld, te, pu)).2.2.2.2.2.2.2.1 ∧ u.2.2.2.2.2.2.2.2.1 = (itemF l nu (n, hwa, m, k, fw, fg, wb, ld, te, pu)).2.2.2.2.2.2.2.2.1 ∧ u.2.2.2.2.2.2.2.2.2 = (itemF l nu (n, hwa, m, k, fw, fg, wb, ld, te, pu)).2.2.2.2.2.2.2.2.2) (fun u => [(h, .inr (4, [.ref hk, .ref hfw, .ref hfg, .ref hwb, .ref hld, .ref hte, .ref hpu, .int (nI u.1), .int u.2.1, .int (nI u.2.2.1), .ref hnu, .int (nI to)])), (hk, .inl (V.2.2.1, 7, .inl u.2.2.2.1)), (hfw, .inl (V.2.2.1, 7, .inl u.2.2.2.2.1)), (hfg, .inl (V.2.2.1, 7, .inl u.2.2.2.2.2.1)), (hwb, .inl (V.2.2.1, 7, .inl u.2.2.2.2.2.2.1)), (hld, .inl (V.2.2.1, 9, .inl (nIf u.2.2.2.2.2.2.2.1))), (hte, .inl (V.2.2.1, 9, .inl (nIf u.2.2.2.2.2.2.2.2.1))), (hpu, .inl (V.2.2.1, 9, .inl (nIf u.2.2.2.2.2.2.2.2.2))), (hnu, .inl (V.2.2.1, 3, .inl (nIf nu)))]) := by
  refine Ki.of [some (.ref h), some (.int (nI l)), none, none, none] (by decide) (Nat.le_of_ble_eq_true rfl) rfl rfl ?_
  intro Z X E
  have X : gX V Z RX4 cX4_takeItem 5 ({ frames := 3, cells := 0, slots := 0, locals := 66 }) := X
  refine g_aload_n X dX4_takeItem_0 rfl ?_
  refine g_get X uwX4 0 rfl rfl 10 (by decide) kl_X4_43 rfl rfl gwX4 dX4_takeItem_1 ?_
  refine g_iconst X (0) dX4_takeItem_4 (by decide) ?_
  refine g_callNi X (c_X10_at V hnu 3 (nIf nu) 0 (by omega) (by decide)) mo_X10_at kl_X4_70 [8] [0, 0, 0, 0, 0, 0, 0, 0, 1] rfl (by decide +kernel) rfl rfl (fun _ => Nat.le_of_ble_eq_true rfl) (As := [.ref hnu, .int 0]) (st := []) (cs' := (0, 0)) rfl rfl rfl dX4_takeItem_5 (fun r_5 u_1 hp_2 ws_4 hw_3 => ?_)
  obtain rfl : r_5 = (nIf nu) 0 := hp_2
  have hw_3x : ws_4 = [(h, .inr (4, [.ref hk, .ref hfw, .ref hfg, .ref hwb, .ref hld, .ref hte, .ref hpu, .int (nI n), .int hwa, .int (nI m), .ref hnu, .int (nI to)])), (hk, .inl (V.2.2.1, 7, .inl k)), (hfw, .inl (V.2.2.1, 7, .inl fw)), (hfg, .inl (V.2.2.1, 7, .inl fg)), (hwb, .inl (V.2.2.1, 7, .inl wb)), (hld, .inl (V.2.2.1, 9, .inl (nIf ld))), (hte, .inl (V.2.2.1, 9, .inl (nIf te))), (hpu, .inl (V.2.2.1, 9, .inl (nIf pu))), (hnu, .inl (V.2.2.1, 3, .inl (nIf nu)))] := hw_3.symm
  clear hw_3; subst hw_3x
  refine g_toe (nI (nu 0)) rfl ?_
  refine g_istore_n X (L' := [some (.ref h), some (.int (nI l)), some (.int (nI (nu 0))), none, none]) dX4_takeItem_8 (by decide) rfl rfl ?_
  refine g_aload_n X dX4_takeItem_9 rfl ?_
  refine g_get X uwX4 0 rfl rfl 10 (by decide) kl_X4_43 rfl rfl gwX4 dX4_takeItem_10 ?_
  refine g_iconst X (1) dX4_takeItem_13 (by decide) ?_
  refine g_callNi X (c_X10_at V hnu 3 (nIf nu) 1 (by omega) (by decide)) mo_X10_at kl_X4_70 [8] [0, 0, 0, 0, 0, 0, 0, 0, 1] rfl (by decide +kernel) rfl rfl (fun _ => Nat.le_of_ble_eq_true rfl) (As := [.ref hnu, .int 1]) (st := []) (cs' := (0, 0)) rfl rfl rfl dX4_takeItem_14 (fun r_10 u_6 hp_7 ws_9 hw_8 => ?_)
  obtain rfl : r_10 = (nIf nu) 1 := hp_7
  have hw_8x : ws_9 = [(h, .inr (4, [.ref hk, .ref hfw, .ref hfg, .ref hwb, .ref hld, .ref hte, .ref hpu, .int (nI n), .int hwa, .int (nI m), .ref hnu, .int (nI to)])), (hk, .inl (V.2.2.1, 7, .inl k)), (hfw, .inl (V.2.2.1, 7, .inl fw)), (hfg, .inl (V.2.2.1, 7, .inl fg)), (hwb, .inl (V.2.2.1, 7, .inl wb)), (hld, .inl (V.2.2.1, 9, .inl (nIf ld))), (hte, .inl (V.2.2.1, 9, .inl (nIf te))), (hpu, .inl (V.2.2.1, 9, .inl (nIf pu))), (hnu, .inl (V.2.2.1, 3, .inl (nIf nu)))] := hw_8.symm
  clear hw_8; subst hw_8x
  refine g_toe (nI (nu 1)) rfl ?_
  refine g_istore_n X (L' := [some (.ref h), some (.int (nI l)), some (.int (nI (nu 0))), some (.int (nI (nu 1))), none]) dX4_takeItem_17 (by decide) rfl rfl ?_
  refine g_aload_n X dX4_takeItem_18 rfl ?_
  refine g_get X uwX4 0 rfl rfl 10 (by decide) kl_X4_43 rfl rfl gwX4 dX4_takeItem_19 ?_
  refine g_iconst X (2) dX4_takeItem_22 (by decide) ?_
  refine g_callNi X (c_X10_at V hnu 3 (nIf nu) 2 (by omega) (by decide)) mo_X10_at kl_X4_70 [8] [0, 0, 0, 0, 0, 0, 0, 0, 1] rfl (by decide +kernel) rfl rfl (fun _ => Nat.le_of_ble_eq_true rfl) (As := [.ref hnu, .int 2]) (st := []) (cs' := (0, 0)) rfl rfl rfl dX4_takeItem_23 (fun r_15 u_11 hp_12 ws_14 hw_13 => ?_)
  obtain rfl : r_15 = (nIf nu) 2 := hp_12
  have hw_13x : ws_14 = [(h, .inr (4, [.ref hk, .ref hfw, .ref hfg, .ref hwb, .ref hld, .ref hte, .ref hpu, .int (nI n), .int hwa, .int (nI m), .ref hnu, .int (nI to)])), (hk, .inl (V.2.2.1, 7, .inl k)), (hfw, .inl (V.2.2.1, 7, .inl fw)), (hfg, .inl (V.2.2.1, 7, .inl fg)), (hwb, .inl (V.2.2.1, 7, .inl wb)), (hld, .inl (V.2.2.1, 9, .inl (nIf ld))), (hte, .inl (V.2.2.1, 9, .inl (nIf te))), (hpu, .inl (V.2.2.1, 9, .inl (nIf pu))), (hnu, .inl (V.2.2.1, 3, .inl (nIf nu)))] := hw_13.symm
  clear hw_13; subst hw_13x
  refine g_toe (nI (nu 2)) rfl ?_
  refine g_istore X (L' := [some (.ref h), some (.int (nI l)), some (.int (nI (nu 0))), some (.int (nI (nu 1))), some (.int (nI (nu 2)))]) dX4_takeItem_26 (by decide) rfl rfl ?_
  refine g_iload_n X dX4_takeItem_28 rfl ?_
  by_cases c29_16 : nI l = 99
  · have c29_16n := ieq' (a := l) (b := 99) c29_16 (by omega) (by omega)
    refine g_lookup X 64 dX4_takeItem_29 (off := 35) (by decide) (by rw [c29_16]; decide) (by decide) ?_
    have hk9 : to = 3 ∧ n < 7 ∧ nu 0 ≤ 4 ∧ nu 1 ≤ 200 ∧ nu 2 ≤ 20 := by rcases hok with h0 | h0 | h0 <;> omega
    have hl9 : l = 99 := by omega
    subst hl9
    refine g_aload_n X dX4_takeItem_64 rfl ?_
    refine g_get X uwX4 0 rfl rfl 11 (by decide) kl_X4_46 rfl rfl gwX4 dX4_takeItem_65 ?_
    refine g_iconst X (3) dX4_takeItem_68 (by decide) ?_
    refine g_icmp_ne X 87 dX4_takeItem_69 (by decide) (fun c69_17 => absurd (teq (a := to) (b := 3) (by omega) (by omega) (by omega)) c69_17) (fun c69_17 => ?_)
    refine g_aload_n X dX4_takeItem_72 rfl ?_
    refine g_iload_n X dX4_takeItem_73 rfl ?_
    refine g_iload_n X dX4_takeItem_74 rfl ?_
    refine g_iload X dX4_takeItem_75 rfl ?_
    refine g_callVi X (c_X4_takeClock_ok V h hk hfw hfg hwb hld hte hpu hnu n hwa m to k fw fg wb (nu 0) (nu 1) (nu 2) (by omega)) mo_X4_takeClock kl_X4_74 [0, 1, 2, 3, 4] [1, 2, 3, 4, 5, 0, 0, 0, 0] rfl (by decide +kernel) rfl rfl (fun _ => Nat.le_of_ble_eq_true rfl) 0 4 rfl rfl (As := [.int (nI (nu 0)), .int (nI (nu 1)), .int (nI (nu 2))]) (st := []) (cs' := (0, 0)) rfl rfl rfl rfl dX4_takeItem_77 (fun r_22 u_18 hp_19 ws_21 hw_20 => ?_)
    obtain rfl : r_22 = 1 := hp_19
    have hw_20x : ws_21 = [(h, .inr (4, [.ref hk, .ref hfw, .ref hfg, .ref hwb, .ref hld, .ref hte, .ref hpu, .int (nI (n + 1)), .int hwa, .int (nI m), .ref hnu, .int (nI to)])), (hk, .inl (V.2.2.1, 7, .inl (upd k n (nI (nu 0))))), (hfw, .inl (V.2.2.1, 7, .inl (upd fw n (nI (nu 1) - 100)))), (hfg, .inl (V.2.2.1, 7, .inl (upd fg n (nI (nu 2) - 10)))), (hwb, .inl (V.2.2.1, 7, .inl (upd wb n 0))), (hld, .inl (V.2.2.1, 9, .inl (nIf ld))), (hte, .inl (V.2.2.1, 9, .inl (nIf te))), (hpu, .inl (V.2.2.1, 9, .inl (nIf pu))), (hnu, .inl (V.2.2.1, 3, .inl (nIf nu)))] := hw_20.symm
    clear hw_20; subst hw_20x
    refine g_if_eq X 87 dX4_takeItem_80 (by decide) (fun c80_23 => absurd c80_23 (by decide)) (fun c80_23 => ?_)
    refine g_iconst X (1) dX4_takeItem_83 (by decide) ?_
    refine g_goto X 88 dX4_takeItem_84 (by decide) ?_
    exact g_zret X E dX4_takeItem_88 ⟨n + 1, hwa, m, upd k n (nI (nu 0)), upd fw n (nI (nu 1) - 100), upd fg n (nI (nu 2) - 10), upd wb n 0, ld, te, pu⟩ 1 rfl ⟨rfl, (by rw [itemF, if_pos rfl]), (by rw [itemF, if_pos rfl]), (by rw [itemF, if_pos rfl]), (by rw [itemF, if_pos rfl]), (by rw [itemF, if_pos rfl]), (by rw [itemF, if_pos rfl]), (by rw [itemF, if_pos rfl]), (by rw [itemF, if_pos rfl]), (by rw [itemF, if_pos rfl]), (by rw [itemF, if_pos rfl])⟩ rfl
  by_cases c29_24 : nI l = 108
  · have c29_24n := ieq' (a := l) (b := 108) c29_24 (by omega) (by omega)
    refine g_lookup X 112 dX4_takeItem_29 (off := 83) (by decide) (by rw [c29_24]; decide) (by decide) ?_
    have hk9 : to = 3 ∧ m < 9 ∧ nu 0 < 14 ∧ nu 1 < n ∧ nu 2 < n ∧ nu 1 ≠ nu 2 := by rcases hok with h0 | h0 | h0 <;> omega
    have hl9 : l = 108 := by omega
    subst hl9
    refine g_aload_n X dX4_takeItem_112 rfl ?_
    refine g_get X uwX4 0 rfl rfl 11 (by decide) kl_X4_46 rfl rfl gwX4 dX4_takeItem_113 ?_
    refine g_iconst X (3) dX4_takeItem_116 (by decide) ?_
    refine g_icmp_ne X 135 dX4_takeItem_117 (by decide) (fun c117_25 => absurd (teq (a := to) (b := 3) (by omega) (by omega) (by omega)) c117_25) (fun c117_25 => ?_)
    refine g_aload_n X dX4_takeItem_120 rfl ?_
    refine g_iload_n X dX4_takeItem_121 rfl ?_
    refine g_iload_n X dX4_takeItem_122 rfl ?_
    refine g_iload X dX4_takeItem_123 rfl ?_
    refine g_callVi X (c_X4_takeLesson_ok V h hk hfw hfg hwb hld hte hpu hnu n hwa m to ld te pu (nu 0) (nu 1) (nu 2) (by omega) (by omega)) mo_X4_takeLesson kl_X4_82 [0, 5, 6, 7] [1, 0, 0, 0, 0, 2, 3, 4, 0] rfl (by decide +kernel) rfl rfl (fun _ => Nat.le_of_ble_eq_true rfl) 0 4 rfl rfl (As := [.int (nI (nu 0)), .int (nI (nu 1)), .int (nI (nu 2))]) (st := []) (cs' := (0, 0)) rfl rfl rfl rfl dX4_takeItem_125 (fun r_30 u_26 hp_27 ws_29 hw_28 => ?_)
    obtain rfl : r_30 = 1 := hp_27
    have hw_28x : ws_29 = [(h, .inr (4, [.ref hk, .ref hfw, .ref hfg, .ref hwb, .ref hld, .ref hte, .ref hpu, .int (nI n), .int hwa, .int (nI (m + 1)), .ref hnu, .int (nI to)])), (hk, .inl (V.2.2.1, 7, .inl k)), (hfw, .inl (V.2.2.1, 7, .inl fw)), (hfg, .inl (V.2.2.1, 7, .inl fg)), (hwb, .inl (V.2.2.1, 7, .inl wb)), (hld, .inl (V.2.2.1, 9, .inl (nIf (updN ld m (nu 0))))), (hte, .inl (V.2.2.1, 9, .inl (nIf (updN te m (nu 1))))), (hpu, .inl (V.2.2.1, 9, .inl (nIf (updN pu m (nu 2))))), (hnu, .inl (V.2.2.1, 3, .inl (nIf nu)))] := hw_28.symm
    clear hw_28; subst hw_28x
    refine g_if_eq X 135 dX4_takeItem_128 (by decide) (fun c128_31 => absurd c128_31 (by decide)) (fun c128_31 => ?_)
    refine g_iconst X (1) dX4_takeItem_131 (by decide) ?_
    refine g_goto X 136 dX4_takeItem_132 (by decide) ?_
    exact g_zret X E dX4_takeItem_136 ⟨n, hwa, m + 1, k, fw, fg, wb, updN ld m (nu 0), updN te m (nu 1), updN pu m (nu 2)⟩ 1 rfl ⟨rfl, (by rw [itemF, if_neg (by decide), if_neg (by decide)]), (by rw [itemF, if_neg (by decide), if_neg (by decide)]), (by rw [itemF, if_neg (by decide), if_neg (by decide)]), (by rw [itemF, if_neg (by decide), if_neg (by decide)]), (by rw [itemF, if_neg (by decide), if_neg (by decide)]), (by rw [itemF, if_neg (by decide), if_neg (by decide)]), (by rw [itemF, if_neg (by decide), if_neg (by decide)]), (by rw [itemF, if_neg (by decide), if_neg (by decide)]), (by rw [itemF, if_neg (by decide), if_neg (by decide)]), (by rw [itemF, if_neg (by decide), if_neg (by decide)])⟩ rfl
  by_cases c29_32 : nI l = 119
  · have c29_32n := ieq' (a := l) (b := 119) c29_32 (by omega) (by omega)
    refine g_lookup X 89 dX4_takeItem_29 (off := 60) (by decide) (by rw [c29_32]; decide) (by decide) ?_
    have hk9 : to = 2 ∧ nu 0 < n ∧ nu 1 < n ∧ nu 0 ≠ nu 1 := by rcases hok with h0 | h0 | h0 <;> omega
    have hl9 : l = 119 := by omega
    subst hl9
    refine g_aload_n X dX4_takeItem_89 rfl ?_
    refine g_get X uwX4 0 rfl rfl 11 (by decide) kl_X4_46 rfl rfl gwX4 dX4_takeItem_90 ?_
    refine g_iconst X (2) dX4_takeItem_93 (by decide) ?_
    refine g_icmp_ne X 110 dX4_takeItem_94 (by decide) (fun c94_33 => absurd (teq (a := to) (b := 2) (by omega) (by omega) (by omega)) c94_33) (fun c94_33 => ?_)
    refine g_aload_n X dX4_takeItem_97 rfl ?_
    refine g_iload_n X dX4_takeItem_98 rfl ?_
    refine g_iload_n X dX4_takeItem_99 rfl ?_
    refine g_callVi X (c_X4_takeWall_ok V h hk hfw hfg hwb hld hte hpu hnu n hwa m to wb (nu 0) (nu 1) (by omega) (by omega)) mo_X4_takeWall kl_X4_78 [0, 4] [1, 0, 0, 0, 2, 0, 0, 0, 0] rfl (by decide +kernel) rfl rfl (fun _ => Nat.le_of_ble_eq_true rfl) 0 4 rfl rfl (As := [.int (nI (nu 0)), .int (nI (nu 1))]) (st := []) (cs' := (0, 0)) rfl rfl rfl rfl dX4_takeItem_100 (fun r_38 u_34 hp_35 ws_37 hw_36 => ?_)
    obtain ⟨nwa_39, nwb_40⟩ := u_34
    obtain ⟨rfl, rfl, rfl⟩ : r_38 = 1 ∧ nwa_39 = wallC wb (nu 0) (nu 1) hwa ∧ nwb_40 = wallB wb (nu 0) (nu 1) := hp_35
    have hw_36x : ws_37 = [(h, .inr (4, [.ref hk, .ref hfw, .ref hfg, .ref hwb, .ref hld, .ref hte, .ref hpu, .int (nI n), .int (wallC wb (nu 0) (nu 1) hwa), .int (nI m), .ref hnu, .int (nI to)])), (hk, .inl (V.2.2.1, 7, .inl k)), (hfw, .inl (V.2.2.1, 7, .inl fw)), (hfg, .inl (V.2.2.1, 7, .inl fg)), (hwb, .inl (V.2.2.1, 7, .inl (wallB wb (nu 0) (nu 1)))), (hld, .inl (V.2.2.1, 9, .inl (nIf ld))), (hte, .inl (V.2.2.1, 9, .inl (nIf te))), (hpu, .inl (V.2.2.1, 9, .inl (nIf pu))), (hnu, .inl (V.2.2.1, 3, .inl (nIf nu)))] := hw_36.symm
    clear hw_36; subst hw_36x
    refine g_if_eq X 110 dX4_takeItem_103 (by decide) (fun c103_41 => absurd c103_41 (by decide)) (fun c103_41 => ?_)
    refine g_iconst X (1) dX4_takeItem_106 (by decide) ?_
    refine g_goto X 111 dX4_takeItem_107 (by decide) ?_
    exact g_zret X E dX4_takeItem_111 ⟨n, wallC wb (nu 0) (nu 1) hwa, m, k, fw, fg, wallB wb (nu 0) (nu 1), ld, te, pu⟩ 1 rfl ⟨rfl, (by rw [itemF, if_neg (by decide), if_pos rfl]), (by rw [itemF, if_neg (by decide), if_pos rfl]), (by rw [itemF, if_neg (by decide), if_pos rfl]), (by rw [itemF, if_neg (by decide), if_pos rfl]), (by rw [itemF, if_neg (by decide), if_pos rfl]), (by rw [itemF, if_neg (by decide), if_pos rfl]), (by rw [itemF, if_neg (by decide), if_pos rfl]), (by rw [itemF, if_neg (by decide), if_pos rfl]), (by rw [itemF, if_neg (by decide), if_pos rfl]), (by rw [itemF, if_neg (by decide), if_pos rfl])⟩ rfl
  have c29_16n := ine' (a := l) (b := 99) c29_16 (by omega) (by omega)
  have c29_24n := ine' (a := l) (b := 108) c29_24 (by omega) (by omega)
  have c29_32n := ine' (a := l) (b := 119) c29_32 (by omega) (by omega)
  refine g_lookup X 137 dX4_takeItem_29 (off := 108) (by decide) (by have h0 := toInt_ne c29_16 (z := 99) (by decide); have h1 := toInt_ne c29_24 (z := 108) (by decide); have h2 := toInt_ne c29_32 (z := 119) (by decide); simp [Op.lookupswitch.offset, h0, h1, h2]) (by decide) ?_
  exact absurd hok (by rintro (h0 | h0 | h0) <;> omega)

set_option maxHeartbeats 4000000 in
set_option maxRecDepth 100000 in
theorem c_X4_takeItem_no (V : gV) (h : Nat) (hk : Nat) (hfw : Nat) (hfg : Nat) (hwb : Nat) (hld : Nat) (hte : Nat) (hpu : Nat) (hnu : Nat) (n : Nat) (hwa : Int32) (m : Nat) (to : Nat) (k : Nat → Int32) (fw : Nat → Int32) (fg : Nat → Int32) (wb : Nat → Int32) (ld : Nat → Nat) (te : Nat → Nat) (pu : Nat → Nat) (nu : Nat → Nat) (l : Nat) (hn : n ≤ 7) (hm : m ≤ 9) (hok : ¬ itemOK l to nu n m) (hb_l : l < 1000) (hto : to ≤ 3) (hnu_ : ∀ j, j < 3 → nu j < 1000) : Ki V yX4_takeItem cX4_takeItem 5 .boolean ({ frames := 3, cells := 0, slots := 0, locals := 66 }) [.ref h, .int (nI l)] [(h, .inr (4, [.ref hk, .ref hfw, .ref hfg, .ref hwb, .ref hld, .ref hte, .ref hpu, .int (nI n), .int hwa, .int (nI m), .ref hnu, .int (nI to)])), (hk, .inl (V.2.2.1, 7, .inl k)), (hfw, .inl (V.2.2.1, 7, .inl fw)), (hfg, .inl (V.2.2.1, 7, .inl fg)), (hwb, .inl (V.2.2.1, 7, .inl wb)), (hld, .inl (V.2.2.1, 9, .inl (nIf ld))), (hte, .inl (V.2.2.1, 9, .inl (nIf te))), (hpu, .inl (V.2.2.1, 9, .inl (nIf pu))), (hnu, .inl (V.2.2.1, 3, .inl (nIf nu)))] (fun (r : Int32) (u : Unit) => r = 0) (fun u => [(h, .inr (4, [.ref hk, .ref hfw, .ref hfg, .ref hwb, .ref hld, .ref hte, .ref hpu, .int (nI n), .int hwa, .int (nI m), .ref hnu, .int (nI to)])), (hk, .inl (V.2.2.1, 7, .inl k)), (hfw, .inl (V.2.2.1, 7, .inl fw)), (hfg, .inl (V.2.2.1, 7, .inl fg)), (hwb, .inl (V.2.2.1, 7, .inl wb)), (hld, .inl (V.2.2.1, 9, .inl (nIf ld))), (hte, .inl (V.2.2.1, 9, .inl (nIf te))), (hpu, .inl (V.2.2.1, 9, .inl (nIf pu))), (hnu, .inl (V.2.2.1, 3, .inl (nIf nu)))]) := by
  refine Ki.of [some (.ref h), some (.int (nI l)), none, none, none] (by decide) (Nat.le_of_ble_eq_true rfl) rfl rfl ?_
  intro Z X E
  have X : gX V Z RX4 cX4_takeItem 5 ({ frames := 3, cells := 0, slots := 0, locals := 66 }) := X
  have hn0 := hnu_ 0 (by omega)
  have hn1 := hnu_ 1 (by omega)
  have hn2 := hnu_ 2 (by omega)
  refine g_aload_n X dX4_takeItem_0 rfl ?_
  refine g_get X uwX4 0 rfl rfl 10 (by decide) kl_X4_43 rfl rfl gwX4 dX4_takeItem_1 ?_
  refine g_iconst X (0) dX4_takeItem_4 (by decide) ?_
  refine g_callNi X (c_X10_at V hnu 3 (nIf nu) 0 (by omega) (by decide)) mo_X10_at kl_X4_70 [8] [0, 0, 0, 0, 0, 0, 0, 0, 1] rfl (by decide +kernel) rfl rfl (fun _ => Nat.le_of_ble_eq_true rfl) (As := [.ref hnu, .int 0]) (st := []) (cs' := (0, 0)) rfl rfl rfl dX4_takeItem_5 (fun r_5 u_1 hp_2 ws_4 hw_3 => ?_)
  obtain rfl : r_5 = (nIf nu) 0 := hp_2
  have hw_3x : ws_4 = [(h, .inr (4, [.ref hk, .ref hfw, .ref hfg, .ref hwb, .ref hld, .ref hte, .ref hpu, .int (nI n), .int hwa, .int (nI m), .ref hnu, .int (nI to)])), (hk, .inl (V.2.2.1, 7, .inl k)), (hfw, .inl (V.2.2.1, 7, .inl fw)), (hfg, .inl (V.2.2.1, 7, .inl fg)), (hwb, .inl (V.2.2.1, 7, .inl wb)), (hld, .inl (V.2.2.1, 9, .inl (nIf ld))), (hte, .inl (V.2.2.1, 9, .inl (nIf te))), (hpu, .inl (V.2.2.1, 9, .inl (nIf pu))), (hnu, .inl (V.2.2.1, 3, .inl (nIf nu)))] := hw_3.symm
  clear hw_3; subst hw_3x
  refine g_toe (nI (nu 0)) rfl ?_
  refine g_istore_n X (L' := [some (.ref h), some (.int (nI l)), some (.int (nI (nu 0))), none, none]) dX4_takeItem_8 (by decide) rfl rfl ?_
  refine g_aload_n X dX4_takeItem_9 rfl ?_
  refine g_get X uwX4 0 rfl rfl 10 (by decide) kl_X4_43 rfl rfl gwX4 dX4_takeItem_10 ?_
  refine g_iconst X (1) dX4_takeItem_13 (by decide) ?_
  refine g_callNi X (c_X10_at V hnu 3 (nIf nu) 1 (by omega) (by decide)) mo_X10_at kl_X4_70 [8] [0, 0, 0, 0, 0, 0, 0, 0, 1] rfl (by decide +kernel) rfl rfl (fun _ => Nat.le_of_ble_eq_true rfl) (As := [.ref hnu, .int 1]) (st := []) (cs' := (0, 0)) rfl rfl rfl dX4_takeItem_14 (fun r_10 u_6 hp_7 ws_9 hw_8 => ?_)
  obtain rfl : r_10 = (nIf nu) 1 := hp_7
  have hw_8x : ws_9 = [(h, .inr (4, [.ref hk, .ref hfw, .ref hfg, .ref hwb, .ref hld, .ref hte, .ref hpu, .int (nI n), .int hwa, .int (nI m), .ref hnu, .int (nI to)])), (hk, .inl (V.2.2.1, 7, .inl k)), (hfw, .inl (V.2.2.1, 7, .inl fw)), (hfg, .inl (V.2.2.1, 7, .inl fg)), (hwb, .inl (V.2.2.1, 7, .inl wb)), (hld, .inl (V.2.2.1, 9, .inl (nIf ld))), (hte, .inl (V.2.2.1, 9, .inl (nIf te))), (hpu, .inl (V.2.2.1, 9, .inl (nIf pu))), (hnu, .inl (V.2.2.1, 3, .inl (nIf nu)))] := hw_8.symm
  clear hw_8; subst hw_8x
  refine g_toe (nI (nu 1)) rfl ?_
  refine g_istore_n X (L' := [some (.ref h), some (.int (nI l)), some (.int (nI (nu 0))), some (.int (nI (nu 1))), none]) dX4_takeItem_17 (by decide) rfl rfl ?_
  refine g_aload_n X dX4_takeItem_18 rfl ?_
  refine g_get X uwX4 0 rfl rfl 10 (by decide) kl_X4_43 rfl rfl gwX4 dX4_takeItem_19 ?_
  refine g_iconst X (2) dX4_takeItem_22 (by decide) ?_
  refine g_callNi X (c_X10_at V hnu 3 (nIf nu) 2 (by omega) (by decide)) mo_X10_at kl_X4_70 [8] [0, 0, 0, 0, 0, 0, 0, 0, 1] rfl (by decide +kernel) rfl rfl (fun _ => Nat.le_of_ble_eq_true rfl) (As := [.ref hnu, .int 2]) (st := []) (cs' := (0, 0)) rfl rfl rfl dX4_takeItem_23 (fun r_15 u_11 hp_12 ws_14 hw_13 => ?_)
  obtain rfl : r_15 = (nIf nu) 2 := hp_12
  have hw_13x : ws_14 = [(h, .inr (4, [.ref hk, .ref hfw, .ref hfg, .ref hwb, .ref hld, .ref hte, .ref hpu, .int (nI n), .int hwa, .int (nI m), .ref hnu, .int (nI to)])), (hk, .inl (V.2.2.1, 7, .inl k)), (hfw, .inl (V.2.2.1, 7, .inl fw)), (hfg, .inl (V.2.2.1, 7, .inl fg)), (hwb, .inl (V.2.2.1, 7, .inl wb)), (hld, .inl (V.2.2.1, 9, .inl (nIf ld))), (hte, .inl (V.2.2.1, 9, .inl (nIf te))), (hpu, .inl (V.2.2.1, 9, .inl (nIf pu))), (hnu, .inl (V.2.2.1, 3, .inl (nIf nu)))] := hw_13.symm
  clear hw_13; subst hw_13x
  refine g_toe (nI (nu 2)) rfl ?_
  refine g_istore X (L' := [some (.ref h), some (.int (nI l)), some (.int (nI (nu 0))), some (.int (nI (nu 1))), some (.int (nI (nu 2)))]) dX4_takeItem_26 (by decide) rfl rfl ?_
  refine g_iload_n X dX4_takeItem_28 rfl ?_
  by_cases c29_16 : nI l = 99
  · have c29_16n := ieq' (a := l) (b := 99) c29_16 (by omega) (by omega)
    refine g_lookup X 64 dX4_takeItem_29 (off := 35) (by decide) (by rw [c29_16]; decide) (by decide) ?_
    have hl9 : l = 99 := by omega
    refine g_aload_n X dX4_takeItem_64 rfl ?_
    refine g_get X uwX4 0 rfl rfl 11 (by decide) kl_X4_46 rfl rfl gwX4 dX4_takeItem_65 ?_
    refine g_iconst X (3) dX4_takeItem_68 (by decide) ?_
    refine g_icmp_ne X 87 dX4_takeItem_69 (by decide) (fun c69_17 => ?_) (fun c69_17 => ?_)
    · have c69_17n := ine' (a := to) (b := 3) c69_17 (by omega) (by omega)
      refine g_iconst X (0) dX4_takeItem_87 (by decide) ?_
      exact g_zret X E dX4_takeItem_88 () 0 rfl (by first | rfl | (simp [c29_16, c69_17, c69_17n]; done)) rfl
    · have c69_17n := ieq' (a := to) (b := 3) c69_17 (by omega) (by omega)
      refine g_aload_n X dX4_takeItem_72 rfl ?_
      refine g_iload_n X dX4_takeItem_73 rfl ?_
      refine g_iload_n X dX4_takeItem_74 rfl ?_
      refine g_iload X dX4_takeItem_75 rfl ?_
      refine g_callVi X (c_X4_takeClock_no V h hk hfw hfg hwb hld hte hpu hnu n hwa m to k fw fg wb (nu 0) (nu 1) (nu 2) (by omega) (fun z => hok (Or.inl ⟨hl9, by omega, z⟩)) (by omega) (by omega) (by omega)) mo_X4_takeClock kl_X4_74 [0, 1, 2, 3, 4] [1, 2, 3, 4, 5, 0, 0, 0, 0] rfl (by decide +kernel) rfl rfl (fun _ => Nat.le_of_ble_eq_true rfl) 0 4 rfl rfl (As := [.int (nI (nu 0)), .int (nI (nu 1)), .int (nI (nu 2))]) (st := []) (cs' := (0, 0)) rfl rfl rfl rfl dX4_takeItem_77 (fun r_22 u_18 hp_19 ws_21 hw_20 => ?_)
      obtain rfl : r_22 = 0 := hp_19
      have hw_20x : ws_21 = [(h, .inr (4, [.ref hk, .ref hfw, .ref hfg, .ref hwb, .ref hld, .ref hte, .ref hpu, .int (nI n), .int hwa, .int (nI m), .ref hnu, .int (nI to)])), (hk, .inl (V.2.2.1, 7, .inl k)), (hfw, .inl (V.2.2.1, 7, .inl fw)), (hfg, .inl (V.2.2.1, 7, .inl fg)), (hwb, .inl (V.2.2.1, 7, .inl wb)), (hld, .inl (V.2.2.1, 9, .inl (nIf ld))), (hte, .inl (V.2.2.1, 9, .inl (nIf te))), (hpu, .inl (V.2.2.1, 9, .inl (nIf pu))), (hnu, .inl (V.2.2.1, 3, .inl (nIf nu)))] := hw_20.symm
      clear hw_20; subst hw_20x
      refine g_if_eq X 87 dX4_takeItem_80 (by decide) (fun c80_23 => ?_) (fun c80_23 => absurd (by decide) c80_23)
      refine g_iconst X (0) dX4_takeItem_87 (by decide) ?_
      exact g_zret X E dX4_takeItem_88 () 0 rfl (by first | rfl | (simp [c29_16, c69_17, c69_17n, c80_23]; done)) rfl
  by_cases c29_24 : nI l = 108
  · have c29_24n := ieq' (a := l) (b := 108) c29_24 (by omega) (by omega)
    refine g_lookup X 112 dX4_takeItem_29 (off := 83) (by decide) (by rw [c29_24]; decide) (by decide) ?_
    have hl9 : l = 108 := by omega
    refine g_aload_n X dX4_takeItem_112 rfl ?_
    refine g_get X uwX4 0 rfl rfl 11 (by decide) kl_X4_46 rfl rfl gwX4 dX4_takeItem_113 ?_
    refine g_iconst X (3) dX4_takeItem_116 (by decide) ?_
    refine g_icmp_ne X 135 dX4_takeItem_117 (by decide) (fun c117_25 => ?_) (fun c117_25 => ?_)
    · have c117_25n := ine' (a := to) (b := 3) c117_25 (by omega) (by omega)
      refine g_iconst X (0) dX4_takeItem_135 (by decide) ?_
      exact g_zret X E dX4_takeItem_136 () 0 rfl (by first | rfl | (simp [c29_16, c29_24, c117_25, c117_25n]; done)) rfl
    · have c117_25n := ieq' (a := to) (b := 3) c117_25 (by omega) (by omega)
      refine g_aload_n X dX4_takeItem_120 rfl ?_
      refine g_iload_n X dX4_takeItem_121 rfl ?_
      refine g_iload_n X dX4_takeItem_122 rfl ?_
      refine g_iload X dX4_takeItem_123 rfl ?_
      refine g_callVi X (c_X4_takeLesson_no V h hk hfw hfg hwb hld hte hpu hnu n hwa m to ld te pu (nu 0) (nu 1) (nu 2) (by omega) (by omega) (fun z => hok (Or.inr (Or.inr ⟨hl9, by omega, z⟩))) (by omega) (by omega) (by omega)) mo_X4_takeLesson kl_X4_82 [0, 5, 6, 7] [1, 0, 0, 0, 0, 2, 3, 4, 0] rfl (by decide +kernel) rfl rfl (fun _ => Nat.le_of_ble_eq_true rfl) 0 4 rfl rfl (As := [.int (nI (nu 0)), .int (nI (nu 1)), .int (nI (nu 2))]) (st := []) (cs' := (0, 0)) rfl rfl rfl rfl dX4_takeItem_125 (fun r_30 u_26 hp_27 ws_29 hw_28 => ?_)
      obtain rfl : r_30 = 0 := hp_27
      have hw_28x : ws_29 = [(h, .inr (4, [.ref hk, .ref hfw, .ref hfg, .ref hwb, .ref hld, .ref hte, .ref hpu, .int (nI n), .int hwa, .int (nI m), .ref hnu, .int (nI to)])), (hk, .inl (V.2.2.1, 7, .inl k)), (hfw, .inl (V.2.2.1, 7, .inl fw)), (hfg, .inl (V.2.2.1, 7, .inl fg)), (hwb, .inl (V.2.2.1, 7, .inl wb)), (hld, .inl (V.2.2.1, 9, .inl (nIf ld))), (hte, .inl (V.2.2.1, 9, .inl (nIf te))), (hpu, .inl (V.2.2.1, 9, .inl (nIf pu))), (hnu, .inl (V.2.2.1, 3, .inl (nIf nu)))] := hw_28.symm
      clear hw_28; subst hw_28x
      refine g_if_eq X 135 dX4_takeItem_128 (by decide) (fun c128_31 => ?_) (fun c128_31 => absurd (by decide) c128_31)
      refine g_iconst X (0) dX4_takeItem_135 (by decide) ?_
      exact g_zret X E dX4_takeItem_136 () 0 rfl (by first | rfl | (simp [c29_16, c29_24, c117_25, c117_25n, c128_31]; done)) rfl
  by_cases c29_32 : nI l = 119
  · have c29_32n := ieq' (a := l) (b := 119) c29_32 (by omega) (by omega)
    refine g_lookup X 89 dX4_takeItem_29 (off := 60) (by decide) (by rw [c29_32]; decide) (by decide) ?_
    have hl9 : l = 119 := by omega
    refine g_aload_n X dX4_takeItem_89 rfl ?_
    refine g_get X uwX4 0 rfl rfl 11 (by decide) kl_X4_46 rfl rfl gwX4 dX4_takeItem_90 ?_
    refine g_iconst X (2) dX4_takeItem_93 (by decide) ?_
    refine g_icmp_ne X 110 dX4_takeItem_94 (by decide) (fun c94_33 => ?_) (fun c94_33 => ?_)
    · have c94_33n := ine' (a := to) (b := 2) c94_33 (by omega) (by omega)
      refine g_iconst X (0) dX4_takeItem_110 (by decide) ?_
      exact g_zret X E dX4_takeItem_111 () 0 rfl (by first | rfl | (simp [c29_16, c29_24, c29_32, c94_33, c94_33n]; done)) rfl
    · have c94_33n := ieq' (a := to) (b := 2) c94_33 (by omega) (by omega)
      refine g_aload_n X dX4_takeItem_97 rfl ?_
      refine g_iload_n X dX4_takeItem_98 rfl ?_
      refine g_iload_n X dX4_takeItem_99 rfl ?_
      refine g_callVi X (c_X4_takeWall_no V h hk hfw hfg hwb hld hte hpu hnu n hwa m to wb (nu 0) (nu 1) (by omega) (fun z => hok (Or.inr (Or.inl ⟨hl9, by omega, z⟩))) (by omega) (by omega)) mo_X4_takeWall kl_X4_78 [0, 4] [1, 0, 0, 0, 2, 0, 0, 0, 0] rfl (by decide +kernel) rfl rfl (fun _ => Nat.le_of_ble_eq_true rfl) 0 4 rfl rfl (As := [.int (nI (nu 0)), .int (nI (nu 1))]) (st := []) (cs' := (0, 0)) rfl rfl rfl rfl dX4_takeItem_100 (fun r_38 u_34 hp_35 ws_37 hw_36 => ?_)
      obtain rfl : r_38 = 0 := hp_35
      have hw_36x : ws_37 = [(h, .inr (4, [.ref hk, .ref hfw, .ref hfg, .ref hwb, .ref hld, .ref hte, .ref hpu, .int (nI n), .int hwa, .int (nI m), .ref hnu, .int (nI to)])), (hk, .inl (V.2.2.1, 7, .inl k)), (hfw, .inl (V.2.2.1, 7, .inl fw)), (hfg, .inl (V.2.2.1, 7, .inl fg)), (hwb, .inl (V.2.2.1, 7, .inl wb)), (hld, .inl (V.2.2.1, 9, .inl (nIf ld))), (hte, .inl (V.2.2.1, 9, .inl (nIf te))), (hpu, .inl (V.2.2.1, 9, .inl (nIf pu))), (hnu, .inl (V.2.2.1, 3, .inl (nIf nu)))] := hw_36.symm
      clear hw_36; subst hw_36x
      refine g_if_eq X 110 dX4_takeItem_103 (by decide) (fun c103_39 => ?_) (fun c103_39 => absurd (by decide) c103_39)
      refine g_iconst X (0) dX4_takeItem_110 (by decide) ?_
      exact g_zret X E dX4_takeItem_111 () 0 rfl (by first | rfl | (simp [c29_16, c29_24, c29_32, c94_33, c94_33n, c103_39]; done)) rfl
  have c29_16n := ine' (a := l) (b := 99) c29_16 (by omega) (by omega)
  have c29_24n := ine' (a := l) (b := 108) c29_24 (by omega) (by omega)
  have c29_32n := ine' (a := l) (b := 119) c29_32 (by omega) (by omega)
  refine g_lookup X 137 dX4_takeItem_29 (off := 108) (by decide) (by have h0 := toInt_ne c29_16 (z := 99) (by decide); have h1 := toInt_ne c29_24 (z := 108) (by decide); have h2 := toInt_ne c29_32 (z := 119) (by decide); simp [Op.lookupswitch.offset, h0, h1, h2]) (by decide) ?_
  refine g_iconst X (0) dX4_takeItem_137 (by decide) ?_
  exact g_zret X E dX4_takeItem_138 () 0 rfl (by first | rfl | (simp [c29_16, c29_24, c29_32]; done)) rfl

set_option maxHeartbeats 4000000 in
set_option maxRecDepth 100000 in
theorem c_X4_readFrom (V : gV) (h : Nat) (hk : Nat) (hfw : Nat) (hfg : Nat) (hwb : Nat) (hld : Nat) (hte : Nat) (hpu : Nat) (hnu : Nat) (hn_ : Int32) (hwa0 : Int32) (hm_ : Int32) (hto_ : Int32) (k0 : Nat → Int32) (fw0 : Nat → Int32) (fg0 : Nat → Int32) (wb0 : Nat → Int32) (ld0 : Nat → Nat) (te0 : Nat → Nat) (pu0 : Nat → Nat) (nu0 : Nat → Nat) (t : Nat) (tl : Nat) (tf : Nat → Nat) (x : Nat) (hx : x ≤ 200) (hl : ∀ i, i < x → tf i < 1000) (hnu0 : ∀ j, j < 3 → nu0 j < 1000) : Ki V yX4_readFrom cX4_readFrom 5 .int ({ frames := 4, cells := 0, slots := 0, locals := 90 }) [.ref h, .ref t] [(h, .inr (4, [.ref hk, .ref hfw, .ref hfg, .ref hwb, .ref hld, .ref hte, .ref hpu, .int hn_, .int hwa0, .int hm_, .ref hnu, .int hto_])), (hk, .inl (V.2.2.1, 7, .inl k0)), (hfw, .inl (V.2.2.1, 7, .inl fw0)), (hfg, .inl (V.2.2.1, 7, .inl fg0)), (hwb, .inl (V.2.2.1, 7, .inl wb0)), (hld, .inl (V.2.2.1, 9, .inl (nIf ld0))), (hte, .inl (V.2.2.1, 9, .inl (nIf te0))), (hpu, .inl (V.2.2.1, 9, .inl (nIf pu0))), (hnu, .inl (V.2.2.1, 3, .inl (nIf nu0))), (t, .inr (9, [.ref tl, .int (nI x)])), (tl, .inl (V.2.2.1, 200, .inl (nIf tf)))] (fun (r : Int32) (u : Nat × Int32 × Nat × (Nat → Int32) × (Nat → Int32) × (Nat → Int32) × (Nat → Int32) × (Nat → Nat) × (Nat → Nat) × (Nat → Nat) × Int32 × (Nat → Nat)) => r = resI (rdF tf x 200 0 nu0 (0, 0, 0, k0, fw0, fg0, wb0, ld0, te0, pu0)).1 ∧ ((rdF tf x 200 0 nu0 (0, 0, 0, k0, fw0, fg0, wb0, ld0, te0, pu0)).1 = none → (u.1, u.2.1, u.2.2.1, u.2.2.2.1, u.2.2.2.2.1, u.2.2.2.2.2.1, u.2.2.2.2.2.2.1, u.2.2.2.2.2.2.2.1, u.2.2.2.2.2.2.2.2.1, u.2.2.2.2.2.2.2.2.2.1) = (rdF tf x 200 0 nu0 (0, 0, 0, k0, fw0, fg0, wb0, ld0, te0, pu0)).2) ∧ (∀ j, j < 3 → u.2.2.2.2.2.2.2.2.2.2.2 j < 1000)) (fun u => [(h, .inr (4, [.ref hk, .ref hfw, .ref hfg, .ref hwb, .ref hld, .ref hte, .ref hpu, .int (nI u.1), .int u.2.1, .int (nI u.2.2.1), .ref hnu, .int u.2.2.2.2.2.2.2.2.2.2.1])), (hk, .inl (V.2.2.1, 7, .inl u.2.2.2.1)), (hfw, .inl (V.2.2.1, 7, .inl u.2.2.2.2.1)), (hfg, .inl (V.2.2.1, 7, .inl u.2.2.2.2.2.1)), (hwb, .inl (V.2.2.1, 7, .inl u.2.2.2.2.2.2.1)), (hld, .inl (V.2.2.1, 9, .inl (nIf u.2.2.2.2.2.2.2.1))), (hte, .inl (V.2.2.1, 9, .inl (nIf u.2.2.2.2.2.2.2.2.1))), (hpu, .inl (V.2.2.1, 9, .inl (nIf u.2.2.2.2.2.2.2.2.2.1))), (hnu, .inl (V.2.2.1, 3, .inl (nIf u.2.2.2.2.2.2.2.2.2.2.2))), (t, .inr (9, [.ref tl, .int (nI x)])), (tl, .inl (V.2.2.1, 200, .inl (nIf tf)))]) := by
  refine Ki.of [some (.ref h), some (.ref t), none, none, none] (by decide) (Nat.le_of_ble_eq_true rfl) rfl rfl ?_
  intro Z X E
  have X : gX V Z RX4 cX4_readFrom 5 ({ frames := 4, cells := 0, slots := 0, locals := 90 }) := X
  refine g_aload_n X dX4_readFrom_0 rfl ?_
  refine g_iconst X (0) dX4_readFrom_1 (by decide) ?_
  refine g_put X uwX4 tyX4 tyX4_ok nmX4 0 rfl rfl 7 (by decide) kl_X4_33 rfl rfl rfl rfl (Nat.le_of_ble_eq_true rfl) gwX4 (ws' := [(h, .inr (4, [.ref hk, .ref hfw, .ref hfg, .ref hwb, .ref hld, .ref hte, .ref hpu, .int 0, .int hwa0, .int hm_, .ref hnu, .int hto_])), (hk, .inl (V.2.2.1, 7, .inl k0)), (hfw, .inl (V.2.2.1, 7, .inl fw0)), (hfg, .inl (V.2.2.1, 7, .inl fg0)), (hwb, .inl (V.2.2.1, 7, .inl wb0)), (hld, .inl (V.2.2.1, 9, .inl (nIf ld0))), (hte, .inl (V.2.2.1, 9, .inl (nIf te0))), (hpu, .inl (V.2.2.1, 9, .inl (nIf pu0))), (hnu, .inl (V.2.2.1, 3, .inl (nIf nu0))), (t, .inr (9, [.ref tl, .int (nI x)])), (tl, .inl (V.2.2.1, 200, .inl (nIf tf)))]) rfl dX4_readFrom_2 ?_
  refine g_aload_n X dX4_readFrom_5 rfl ?_
  refine g_iconst X (0) dX4_readFrom_6 (by decide) ?_
  refine g_put X uwX4 tyX4 tyX4_ok nmX4 0 rfl rfl 8 (by decide) kl_X4_37 rfl rfl rfl rfl (Nat.le_of_ble_eq_true rfl) gwX4 (ws' := [(h, .inr (4, [.ref hk, .ref hfw, .ref hfg, .ref hwb, .ref hld, .ref hte, .ref hpu, .int 0, .int 0, .int hm_, .ref hnu, .int hto_])), (hk, .inl (V.2.2.1, 7, .inl k0)), (hfw, .inl (V.2.2.1, 7, .inl fw0)), (hfg, .inl (V.2.2.1, 7, .inl fg0)), (hwb, .inl (V.2.2.1, 7, .inl wb0)), (hld, .inl (V.2.2.1, 9, .inl (nIf ld0))), (hte, .inl (V.2.2.1, 9, .inl (nIf te0))), (hpu, .inl (V.2.2.1, 9, .inl (nIf pu0))), (hnu, .inl (V.2.2.1, 3, .inl (nIf nu0))), (t, .inr (9, [.ref tl, .int (nI x)])), (tl, .inl (V.2.2.1, 200, .inl (nIf tf)))]) rfl dX4_readFrom_7 ?_
  refine g_aload_n X dX4_readFrom_10 rfl ?_
  refine g_iconst X (0) dX4_readFrom_11 (by decide) ?_
  refine g_put X uwX4 tyX4 tyX4_ok nmX4 0 rfl rfl 9 (by decide) kl_X4_40 rfl rfl rfl rfl (Nat.le_of_ble_eq_true rfl) gwX4 (ws' := [(h, .inr (4, [.ref hk, .ref hfw, .ref hfg, .ref hwb, .ref hld, .ref hte, .ref hpu, .int 0, .int 0, .int 0, .ref hnu, .int hto_])), (hk, .inl (V.2.2.1, 7, .inl k0)), (hfw, .inl (V.2.2.1, 7, .inl fw0)), (hfg, .inl (V.2.2.1, 7, .inl fg0)), (hwb, .inl (V.2.2.1, 7, .inl wb0)), (hld, .inl (V.2.2.1, 9, .inl (nIf ld0))), (hte, .inl (V.2.2.1, 9, .inl (nIf te0))), (hpu, .inl (V.2.2.1, 9, .inl (nIf pu0))), (hnu, .inl (V.2.2.1, 3, .inl (nIf nu0))), (t, .inr (9, [.ref tl, .int (nI x)])), (tl, .inl (V.2.2.1, 200, .inl (nIf tf)))]) rfl dX4_readFrom_12 ?_
  refine g_iconst X (0) dX4_readFrom_15 (by decide) ?_
  refine g_istore_n X (L' := [some (.ref h), some (.ref t), some (.int 0), none, none]) dX4_readFrom_16 (by decide) rfl rfl ?_
  refine g_iconst X (0) dX4_readFrom_17 (by decide) ?_
  refine g_istore_n X (L' := [some (.ref h), some (.ref t), some (.int 0), some (.int 0), none]) dX4_readFrom_18 (by decide) rfl rfl ?_
  have loop19 : ∀ (d19 i : Nat), i + d19 = 200 → ∀ (p : Nat) (n : Nat) (hwa : Int32) (m : Nat) (to : Int32) (k : Nat → Int32) (fw : Nat → Int32) (fg : Nat → Int32) (wb : Nat → Int32) (ld : Nat → Nat) (te : Nat → Nat) (pu : Nat → Nat) (nu : Nat → Nat) (hip : i ≤ p ∧ p ≤ x) (hn : n ≤ 7) (hm : m ≤ 9) (hnu_ : ∀ j, j < 3 → nu j < 1000) (hrd : rdF tf x 200 0 nu0 (0, 0, 0, k0, fw0, fg0, wb0, ld0, te0, pu0) = rdF tf x (200 - i) p nu (n, hwa, m, k, fw, fg, wb, ld, te, pu)), G V Z 5 (0, 0) [(h, .inr (4, [.ref hk, .ref hfw, .ref hfg, .ref hwb, .ref hld, .ref hte, .ref hpu, .int (nI n), .int hwa, .int (nI m), .ref hnu, .int to])), (hk, .inl (V.2.2.1, 7, .inl k)), (hfw, .inl (V.2.2.1, 7, .inl fw)), (hfg, .inl (V.2.2.1, 7, .inl fg)), (hwb, .inl (V.2.2.1, 7, .inl wb)), (hld, .inl (V.2.2.1, 9, .inl (nIf ld))), (hte, .inl (V.2.2.1, 9, .inl (nIf te))), (hpu, .inl (V.2.2.1, 9, .inl (nIf pu))), (hnu, .inl (V.2.2.1, 3, .inl (nIf nu))), (t, .inr (9, [.ref tl, .int (nI x)])), (tl, .inl (V.2.2.1, 200, .inl (nIf tf)))] 19 [some (.ref h), some (.ref t), some (.int (nI p)), some (.int (nI i)), none] [] := by
    intro d19
    induction d19 with
    | zero =>
      intro i hi p n hwa m to k fw fg wb ld te pu nu hip hn hm hnu_ hrd
      refine g_iload_n X dX4_readFrom_19 rfl ?_
      refine g_sipush X (200) dX4_readFrom_20 (by decide) ?_
      refine g_icmp_ge X 74 dX4_readFrom_23 (by decide) (fun c23_1 => ?_) (fun c23_1 => absurd (tge (a := i) (b := 200) (by omega) (by omega) (by omega)) c23_1)
      refine g_bipush X (-4) dX4_readFrom_74 (by decide) ?_
      exact g_iret X E dX4_readFrom_76 ⟨n, hwa, m, k, fw, fg, wb, ld, te, pu, to, nu⟩ (-4) ⟨(by rw [hrd, rdF_end (by omega)]; rfl), (fun _ => by rw [hrd, rdF_end (by omega)]), hnu_⟩ rfl
    | succ d19 ih19 =>
      intro i hi p n hwa m to k fw fg wb ld te pu nu hip hn hm hnu_ hrd
      refine g_iload_n X dX4_readFrom_19 rfl ?_
      refine g_sipush X (200) dX4_readFrom_20 (by decide) ?_
      refine g_icmp_ge X 74 dX4_readFrom_23 (by decide) (fun c23_2 => absurd c23_2 (fge (a := i) (b := 200) (by omega) (by omega) (by omega))) (fun c23_2 => ?_)
      refine g_iload_n X dX4_readFrom_26 rfl ?_
      refine g_aload_n X dX4_readFrom_27 rfl ?_
      refine g_getN X uwX9 9 rfl rfl 1 (by decide) kl_X4_49 rfl rfl gwX9 dX4_readFrom_28 ?_
      refine g_icmp_ge X 74 dX4_readFrom_31 (by decide) (fun c31_3 => ?_) (fun c31_3 => ?_)
      · have c31_3n := ige' (a := p) (b := x) c31_3 (by omega) (by omega)
        refine g_bipush X (-4) dX4_readFrom_74 (by decide) ?_
        exact g_iret X E dX4_readFrom_76 ⟨n, hwa, m, k, fw, fg, wb, ld, te, pu, to, nu⟩ (-4) ⟨(by rw [hrd, rdF_end (by omega)]; rfl), (fun _ => by rw [hrd, rdF_end (by omega)]), hnu_⟩ rfl
      · have c31_3n := inge' (a := p) (b := x) c31_3 (by omega) (by omega)
        have hl9 := hl p (by omega)
        have hto9 := rdN_to (tf := tf) (d := x - (p + 1)) (p := p + 1) (fig := 0) (num := 0) (nu := nu) (Nat.zero_le 3)
        refine g_aload_n X dX4_readFrom_34 rfl ?_
        refine g_aload_n X dX4_readFrom_35 rfl ?_
        refine g_iload_n X dX4_readFrom_36 rfl ?_
        refine g_iconst X (1) dX4_readFrom_37 (by decide) ?_
        refine g_iadd X dX4_readFrom_38 ?_
        refine g_toe (x' := nI (p + 1)) (nI_add' rfl rfl) ?_
        refine g_callVi X (c_X4_readNumbers V h hk hfw hfg hwb hld hte hpu hnu (nI n) hwa (nI m) to nu t tl tf x (p + 1) (by omega) (by omega) (by omega)) mo_X4_readNumbers kl_X4_54 [0, 8, 9, 10] [1, 0, 0, 0, 0, 0, 0, 0, 2, 3, 4] rfl (by decide +kernel) rfl rfl (fun _ => Nat.le_of_ble_eq_true rfl) 0 4 rfl rfl (As := [.ref t, .int (nI (p + 1))]) (st := []) (cs' := (0, 0)) rfl rfl rfl rfl dX4_readFrom_39 (fun r_8 u_4 hp_5 ws_7 hw_6 => ?_)
        obtain ⟨nto_9, nnu_10⟩ := u_4
        obtain ⟨rfl, rfl, rfl⟩ : r_8 = resI (rdN tf (x - (p + 1)) (p + 1) 0 0 0 nu).1 ∧ nto_9 = (rdN tf (x - (p + 1)) (p + 1) 0 0 0 nu).2.1 ∧ nnu_10 = (rdN tf (x - (p + 1)) (p + 1) 0 0 0 nu).2.2 := hp_5
        have hw_6x : ws_7 = [(h, .inr (4, [.ref hk, .ref hfw, .ref hfg, .ref hwb, .ref hld, .ref hte, .ref hpu, .int (nI n), .int hwa, .int (nI m), .ref hnu, .int (nI ((rdN tf (x - (p + 1)) (p + 1) 0 0 0 nu).2.1))])), (hk, .inl (V.2.2.1, 7, .inl k)), (hfw, .inl (V.2.2.1, 7, .inl fw)), (hfg, .inl (V.2.2.1, 7, .inl fg)), (hwb, .inl (V.2.2.1, 7, .inl wb)), (hld, .inl (V.2.2.1, 9, .inl (nIf ld))), (hte, .inl (V.2.2.1, 9, .inl (nIf te))), (hpu, .inl (V.2.2.1, 9, .inl (nIf pu))), (hnu, .inl (V.2.2.1, 3, .inl (nIf ((rdN tf (x - (p + 1)) (p + 1) 0 0 0 nu).2.2)))), (t, .inr (9, [.ref tl, .int (nI x)])), (tl, .inl (V.2.2.1, 200, .inl (nIf tf)))] := hw_6.symm
        clear hw_6; subst hw_6x
        cases hq : (rdN tf (x - (p + 1)) (p + 1) 0 0 0 nu).1 with
          | none =>
            refine g_toe (x' := -4) rfl ?_
            refine g_istore X (L' := [some (.ref h), some (.ref t), some (.int (nI p)), some (.int (nI i)), some (.int (-4))]) dX4_readFrom_42 (by decide) rfl rfl ?_
            refine g_iload X dX4_readFrom_44 rfl ?_
            refine g_bipush X (-4) dX4_readFrom_46 (by decide) ?_
            refine g_icmp_eq X 63 dX4_readFrom_48 (by decide) (fun c48_11 => ?_) (fun c48_11 => absurd rfl c48_11)
            refine g_iload_n X dX4_readFrom_63 rfl ?_
            exact g_iret X E dX4_readFrom_64 ⟨n, hwa, m, k, fw, fg, wb, ld, te, pu, nI ((rdN tf (x - (p + 1)) (p + 1) 0 0 0 nu).2.1), (rdN tf (x - (p + 1)) (p + 1) 0 0 0 nu).2.2⟩ (nI p) ⟨(by rw [hrd, show 200 - i = (200 - (i + 1)) + 1 by omega, rdF, if_neg (by omega), hq]; rfl), (fun z => by rw [hrd, show 200 - i = (200 - (i + 1)) + 1 by omega, rdF, if_neg (by omega), hq] at z; cases z), (rdN_nu (fun _ => rfl) (by omega) (by omega) (by omega) hnu_)⟩ rfl
          | some nx =>
            refine g_toe (x' := nI nx) rfl ?_
            have hnx := rdN_le hq
            refine g_istore X (L' := [some (.ref h), some (.ref t), some (.int (nI p)), some (.int (nI i)), some (.int (nI nx))]) dX4_readFrom_42 (by decide) rfl rfl ?_
            refine g_iload X dX4_readFrom_44 rfl ?_
            refine g_bipush X (-4) dX4_readFrom_46 (by decide) ?_
            refine g_icmp_eq X 63 dX4_readFrom_48 (by decide) (fun c48_12 => absurd c48_12 (nI_ne4 (by omega))) (fun c48_12 => ?_)
            refine g_aload_n X dX4_readFrom_51 rfl ?_
            refine g_aload_n X dX4_readFrom_52 rfl ?_
            refine g_iload_n X dX4_readFrom_53 rfl ?_
            refine g_callVi X (c_X9_letterAt V t tl (nIf tf) x p (by omega)) mo_X9_letterAt kl_X4_58 [9, 10] [0, 0, 0, 0, 0, 0, 0, 0, 0, 1, 2] rfl (by decide +kernel) rfl rfl (fun _ => Nat.le_of_ble_eq_true rfl) 9 9 rfl rfl (As := [.int (nI p)]) (st := [.ref h]) (cs' := (0, 0)) rfl rfl rfl rfl dX4_readFrom_54 (fun r_17 u_13 hp_14 ws_16 hw_15 => ?_)
            obtain rfl : r_17 = (nIf tf) p := hp_14
            have hw_15x : ws_16 = [(h, .inr (4, [.ref hk, .ref hfw, .ref hfg, .ref hwb, .ref hld, .ref hte, .ref hpu, .int (nI n), .int hwa, .int (nI m), .ref hnu, .int (nI ((rdN tf (x - (p + 1)) (p + 1) 0 0 0 nu).2.1))])), (hk, .inl (V.2.2.1, 7, .inl k)), (hfw, .inl (V.2.2.1, 7, .inl fw)), (hfg, .inl (V.2.2.1, 7, .inl fg)), (hwb, .inl (V.2.2.1, 7, .inl wb)), (hld, .inl (V.2.2.1, 9, .inl (nIf ld))), (hte, .inl (V.2.2.1, 9, .inl (nIf te))), (hpu, .inl (V.2.2.1, 9, .inl (nIf pu))), (hnu, .inl (V.2.2.1, 3, .inl (nIf ((rdN tf (x - (p + 1)) (p + 1) 0 0 0 nu).2.2)))), (t, .inr (9, [.ref tl, .int (nI x)])), (tl, .inl (V.2.2.1, 200, .inl (nIf tf)))] := hw_15.symm
            clear hw_15; subst hw_15x
            refine g_toe (nI (tf p)) rfl ?_
            by_cases hok : itemOK (tf p) (rdN tf (x - (p + 1)) (p + 1) 0 0 0 nu).2.1 (rdN tf (x - (p + 1)) (p + 1) 0 0 0 nu).2.2 n m
            · refine g_callVi X (c_X4_takeItem_ok V h hk hfw hfg hwb hld hte hpu hnu n hwa m ((rdN tf (x - (p + 1)) (p + 1) 0 0 0 nu).2.1) k fw fg wb ld te pu ((rdN tf (x - (p + 1)) (p + 1) 0 0 0 nu).2.2) (tf p) (by omega) hm hok hl9 hto9) mo_X4_takeItem kl_X4_62 [0, 1, 2, 3, 4, 5, 6, 7, 8] [1, 2, 3, 4, 5, 6, 7, 8, 9, 0, 0] rfl (by decide +kernel) rfl rfl (fun _ => Nat.le_of_ble_eq_true rfl) 0 4 rfl rfl (As := [.int (nI (tf p))]) (st := []) (cs' := (0, 0)) rfl rfl rfl rfl dX4_readFrom_57 (fun r_22 u_18 hp_19 ws_21 hw_20 => ?_)
              obtain ⟨nn_23, nwa_24, nm_25, nk_26, nfw_27, nfg_28, nwb_29, nld_30, nte_31, npu_32⟩ := u_18
              obtain ⟨rfl, rfl, rfl, rfl, rfl, rfl, rfl, rfl, rfl, rfl, rfl⟩ : r_22 = 1 ∧ nn_23 = (itemF (tf p) ((rdN tf (x - (p + 1)) (p + 1) 0 0 0 nu).2.2) (n, hwa, m, k, fw, fg, wb, ld, te, pu)).1 ∧ nwa_24 = (itemF (tf p) ((rdN tf (x - (p + 1)) (p + 1) 0 0 0 nu).2.2) (n, hwa, m, k, fw, fg, wb, ld, te, pu)).2.1 ∧ nm_25 = (itemF (tf p) ((rdN tf (x - (p + 1)) (p + 1) 0 0 0 nu).2.2) (n, hwa, m, k, fw, fg, wb, ld, te, pu)).2.2.1 ∧ nk_26 = (itemF (tf p) ((rdN tf (x - (p + 1)) (p + 1) 0 0 0 nu).2.2) (n, hwa, m, k, fw, fg, wb, ld, te, pu)).2.2.2.1 ∧ nfw_27 = (itemF (tf p) ((rdN tf (x - (p + 1)) (p + 1) 0 0 0 nu).2.2) (n, hwa, m, k, fw, fg, wb, ld, te, pu)).2.2.2.2.1 ∧ nfg_28 = (itemF (tf p) ((rdN tf (x - (p + 1)) (p + 1) 0 0 0 nu).2.2) (n, hwa, m, k, fw, fg, wb, ld, te, pu)).2.2.2.2.2.1 ∧ nwb_29 = (itemF (tf p) ((rdN tf (x - (p + 1)) (p + 1) 0 0 0 nu).2.2) (n, hwa, m, k, fw, fg, wb, ld, te, pu)).2.2.2.2.2.2.1 ∧ nld_30 = (itemF (tf p) ((rdN tf (x - (p + 1)) (p + 1) 0 0 0 nu).2.2) (n, hwa, m, k, fw, fg, wb, ld, te, pu)).2.2.2.2.2.2.2.1 ∧ nte_31 = (itemF (tf p) ((rdN tf (x - (p + 1)) (p + 1) 0 0 0 nu).2.2) (n, hwa, m, k, fw, fg, wb, ld, te, pu)).2.2.2.2.2.2.2.2.1 ∧ npu_32 = (itemF (tf p) ((rdN tf (x - (p + 1)) (p + 1) 0 0 0 nu).2.2) (n, hwa, m, k, fw, fg, wb, ld, te, pu)).2.2.2.2.2.2.2.2.2 := hp_19
              have hw_20x : ws_21 = [(h, .inr (4, [.ref hk, .ref hfw, .ref hfg, .ref hwb, .ref hld, .ref hte, .ref hpu, .int (nI ((itemF (tf p) ((rdN tf (x - (p + 1)) (p + 1) 0 0 0 nu).2.2) (n, hwa, m, k, fw, fg, wb, ld, te, pu)).1)), .int ((itemF (tf p) ((rdN tf (x - (p + 1)) (p + 1) 0 0 0 nu).2.2) (n, hwa, m, k, fw, fg, wb, ld, te, pu)).2.1), .int (nI ((itemF (tf p) ((rdN tf (x - (p + 1)) (p + 1) 0 0 0 nu).2.2) (n, hwa, m, k, fw, fg, wb, ld, te, pu)).2.2.1)), .ref hnu, .int (nI ((rdN tf (x - (p + 1)) (p + 1) 0 0 0 nu).2.1))])), (hk, .inl (V.2.2.1, 7, .inl ((itemF (tf p) ((rdN tf (x - (p + 1)) (p + 1) 0 0 0 nu).2.2) (n, hwa, m, k, fw, fg, wb, ld, te, pu)).2.2.2.1))), (hfw, .inl (V.2.2.1, 7, .inl ((itemF (tf p) ((rdN tf (x - (p + 1)) (p + 1) 0 0 0 nu).2.2) (n, hwa, m, k, fw, fg, wb, ld, te, pu)).2.2.2.2.1))), (hfg, .inl (V.2.2.1, 7, .inl ((itemF (tf p) ((rdN tf (x - (p + 1)) (p + 1) 0 0 0 nu).2.2) (n, hwa, m, k, fw, fg, wb, ld, te, pu)).2.2.2.2.2.1))), (hwb, .inl (V.2.2.1, 7, .inl ((itemF (tf p) ((rdN tf (x - (p + 1)) (p + 1) 0 0 0 nu).2.2) (n, hwa, m, k, fw, fg, wb, ld, te, pu)).2.2.2.2.2.2.1))), (hld, .inl (V.2.2.1, 9, .inl (nIf ((itemF (tf p) ((rdN tf (x - (p + 1)) (p + 1) 0 0 0 nu).2.2) (n, hwa, m, k, fw, fg, wb, ld, te, pu)).2.2.2.2.2.2.2.1)))), (hte, .inl (V.2.2.1, 9, .inl (nIf ((itemF (tf p) ((rdN tf (x - (p + 1)) (p + 1) 0 0 0 nu).2.2) (n, hwa, m, k, fw, fg, wb, ld, te, pu)).2.2.2.2.2.2.2.2.1)))), (hpu, .inl (V.2.2.1, 9, .inl (nIf ((itemF (tf p) ((rdN tf (x - (p + 1)) (p + 1) 0 0 0 nu).2.2) (n, hwa, m, k, fw, fg, wb, ld, te, pu)).2.2.2.2.2.2.2.2.2)))), (hnu, .inl (V.2.2.1, 3, .inl (nIf ((rdN tf (x - (p + 1)) (p + 1) 0 0 0 nu).2.2)))), (t, .inr (9, [.ref tl, .int (nI x)])), (tl, .inl (V.2.2.1, 200, .inl (nIf tf)))] := hw_20.symm
              clear hw_20; subst hw_20x
              refine g_if_ne X 65 dX4_readFrom_60 (by decide) (fun c60_33 => ?_) (fun c60_33 => absurd c60_33 (by decide))
              have hni : (itemF (tf p) (rdN tf (x - (p + 1)) (p + 1) 0 0 0 nu).2.2 (n, hwa, m, k, fw, fg, wb, ld, te, pu)).1 ≤ 7 ∧ (itemF (tf p) (rdN tf (x - (p + 1)) (p + 1) 0 0 0 nu).2.2 (n, hwa, m, k, fw, fg, wb, ld, te, pu)).2.2.1 ≤ 9 := item_nm hok hn hm
              refine g_iload X dX4_readFrom_65 rfl ?_
              refine g_istore_n X (L' := [some (.ref h), some (.ref t), some (.int (nI nx)), some (.int (nI i)), some (.int (nI nx))]) dX4_readFrom_67 (by decide) rfl rfl ?_
              refine g_iinc X (v := nI (i + 1)) (L' := [some (.ref h), some (.ref t), some (.int (nI nx)), some (.int (nI (i + 1))), some (.int (nI nx))]) dX4_readFrom_68 rfl (nI_addk (by decide)) (by decide) rfl rfl ?_
              refine g_goto X 19 dX4_readFrom_71 (by decide) ?_
              refine g_sub (L' := [some (.ref h), some (.ref t), some (.int (nI nx)), some (.int (nI (i + 1))), none]) ⟨rfl, ⟨rfl, ⟨rfl, ⟨rfl, trivial⟩⟩⟩⟩ ?_
              exact ih19 (i + 1) (by omega) nx ((itemF (tf p) ((rdN tf (x - (p + 1)) (p + 1) 0 0 0 nu).2.2) (n, hwa, m, k, fw, fg, wb, ld, te, pu)).1) ((itemF (tf p) ((rdN tf (x - (p + 1)) (p + 1) 0 0 0 nu).2.2) (n, hwa, m, k, fw, fg, wb, ld, te, pu)).2.1) ((itemF (tf p) ((rdN tf (x - (p + 1)) (p + 1) 0 0 0 nu).2.2) (n, hwa, m, k, fw, fg, wb, ld, te, pu)).2.2.1) (nI ((rdN tf (x - (p + 1)) (p + 1) 0 0 0 nu).2.1)) ((itemF (tf p) ((rdN tf (x - (p + 1)) (p + 1) 0 0 0 nu).2.2) (n, hwa, m, k, fw, fg, wb, ld, te, pu)).2.2.2.1) ((itemF (tf p) ((rdN tf (x - (p + 1)) (p + 1) 0 0 0 nu).2.2) (n, hwa, m, k, fw, fg, wb, ld, te, pu)).2.2.2.2.1) ((itemF (tf p) ((rdN tf (x - (p + 1)) (p + 1) 0 0 0 nu).2.2) (n, hwa, m, k, fw, fg, wb, ld, te, pu)).2.2.2.2.2.1) ((itemF (tf p) ((rdN tf (x - (p + 1)) (p + 1) 0 0 0 nu).2.2) (n, hwa, m, k, fw, fg, wb, ld, te, pu)).2.2.2.2.2.2.1) ((itemF (tf p) ((rdN tf (x - (p + 1)) (p + 1) 0 0 0 nu).2.2) (n, hwa, m, k, fw, fg, wb, ld, te, pu)).2.2.2.2.2.2.2.1) ((itemF (tf p) ((rdN tf (x - (p + 1)) (p + 1) 0 0 0 nu).2.2) (n, hwa, m, k, fw, fg, wb, ld, te, pu)).2.2.2.2.2.2.2.2.1) ((itemF (tf p) ((rdN tf (x - (p + 1)) (p + 1) 0 0 0 nu).2.2) (n, hwa, m, k, fw, fg, wb, ld, te, pu)).2.2.2.2.2.2.2.2.2) ((rdN tf (x - (p + 1)) (p + 1) 0 0 0 nu).2.2) (by omega) (by omega) (by omega) (rdN_nu (fun _ => rfl) (by omega) (by omega) (by omega) hnu_) (hrd.trans (by rw [show 200 - i = (200 - (i + 1)) + 1 by omega, rdF, if_neg (by omega), hq]; exact if_pos hok))
            · refine g_callVi X (c_X4_takeItem_no V h hk hfw hfg hwb hld hte hpu hnu n hwa m ((rdN tf (x - (p + 1)) (p + 1) 0 0 0 nu).2.1) k fw fg wb ld te pu ((rdN tf (x - (p + 1)) (p + 1) 0 0 0 nu).2.2) (tf p) (by omega) hm hok hl9 hto9 (rdN_nu (fun _ => rfl) (by omega) (by omega) (by omega) hnu_)) mo_X4_takeItem kl_X4_62 [0, 1, 2, 3, 4, 5, 6, 7, 8] [1, 2, 3, 4, 5, 6, 7, 8, 9, 0, 0] rfl (by decide +kernel) rfl rfl (fun _ => Nat.le_of_ble_eq_true rfl) 0 4 rfl rfl (As := [.int (nI (tf p))]) (st := []) (cs' := (0, 0)) rfl rfl rfl rfl dX4_readFrom_57 (fun r_38 u_34 hp_35 ws_37 hw_36 => ?_)
              obtain rfl : r_38 = 0 := hp_35
              have hw_36x : ws_37 = [(h, .inr (4, [.ref hk, .ref hfw, .ref hfg, .ref hwb, .ref hld, .ref hte, .ref hpu, .int (nI n), .int hwa, .int (nI m), .ref hnu, .int (nI ((rdN tf (x - (p + 1)) (p + 1) 0 0 0 nu).2.1))])), (hk, .inl (V.2.2.1, 7, .inl k)), (hfw, .inl (V.2.2.1, 7, .inl fw)), (hfg, .inl (V.2.2.1, 7, .inl fg)), (hwb, .inl (V.2.2.1, 7, .inl wb)), (hld, .inl (V.2.2.1, 9, .inl (nIf ld))), (hte, .inl (V.2.2.1, 9, .inl (nIf te))), (hpu, .inl (V.2.2.1, 9, .inl (nIf pu))), (hnu, .inl (V.2.2.1, 3, .inl (nIf ((rdN tf (x - (p + 1)) (p + 1) 0 0 0 nu).2.2)))), (t, .inr (9, [.ref tl, .int (nI x)])), (tl, .inl (V.2.2.1, 200, .inl (nIf tf)))] := hw_36.symm
              clear hw_36; subst hw_36x
              refine g_if_ne X 65 dX4_readFrom_60 (by decide) (fun c60_39 => absurd rfl c60_39) (fun c60_39 => ?_)
              refine g_iload_n X dX4_readFrom_63 rfl ?_
              exact g_iret X E dX4_readFrom_64 ⟨n, hwa, m, k, fw, fg, wb, ld, te, pu, nI ((rdN tf (x - (p + 1)) (p + 1) 0 0 0 nu).2.1), (rdN tf (x - (p + 1)) (p + 1) 0 0 0 nu).2.2⟩ (nI p) ⟨(by rw [hrd, show 200 - i = (200 - (i + 1)) + 1 by omega, rdF, if_neg (by omega), hq]; dsimp only; rw [if_neg hok]; rfl), (fun z => by rw [hrd, show 200 - i = (200 - (i + 1)) + 1 by omega, rdF, if_neg (by omega), hq] at z; dsimp only at z; rw [if_neg hok] at z; cases z), (rdN_nu (fun _ => rfl) (by omega) (by omega) (by omega) hnu_)⟩ rfl
  exact loop19 200 0 (by omega) 0 0 0 0 hto_ k0 fw0 fg0 wb0 ld0 te0 pu0 nu0 (by omega) (by omega) (by omega) hnu0 rfl
