set_option maxHeartbeats 4000000 in
set_option maxRecDepth 100000 in
theorem c_X0_orderAsChosen (V : gV) (br : Nat) (oa : Nat) (lo : Nat) (co : Nat) (coc : Nat) (cob : Nat) (ch : Nat → Nat) (mn : Int32) (o : Nat → Nat) (n : Nat) (hn : n ≤ 7) (h1n : 1 ≤ n) (hv : ∀ i, i < n - 1 → freeN (tk ch i) (ch i) < n ∧ tk ch i < 256 ∧ ch i < 1000) : Kv V yX0_orderAsChosen cX0_orderAsChosen 5 ({ frames := 2, cells := 0, slots := 0, locals := 42 }) [.ref br, .int (nI n)] [(br, .inr (0, [.ref co, .ref oa, .ref lo])), (co, .inr (2, [.ref coc, .ref cob, .int mn])), (coc, .inl (V.2.2.1, 7, .inl (nIf ch))), (oa, .inl (V.2.2.1, 7, .inl (nIf o)))] (fun u : Unit => True) (fun u => [(br, .inr (0, [.ref co, .ref oa, .ref lo])), (co, .inr (2, [.ref coc, .ref cob, .int mn])), (coc, .inl (V.2.2.1, 7, .inl (nIf ch))), (oa, .inl (V.2.2.1, 7, .inl (nIf (ordO n ch o))))]) := by
  refine Kv.of [some (.ref br), some (.int (nI n)), none, none, none] (by decide) (Nat.le_of_ble_eq_true rfl) rfl rfl ?_
  intro Z X E
  have X : gX V Z RX0 cX0_orderAsChosen 5 ({ frames := 2, cells := 0, slots := 0, locals := 42 }) := X
  refine g_iconst X (1) dX0_orderAsChosen_0 (by decide) ?_
  refine g_istore_n X (L' := [some (.ref br), some (.int (nI n)), some (.int 1), none, none]) dX0_orderAsChosen_1 (by decide) rfl rfl ?_
  refine g_aload_n X dX0_orderAsChosen_2 rfl ?_
  refine g_get X uwX0 0 rfl rfl 1 (by decide) kl_X0_18 rfl rfl gwX0 dX0_orderAsChosen_3 ?_
  refine g_iconst X (0) dX0_orderAsChosen_6 (by decide) ?_
  refine g_iconst X (0) dX0_orderAsChosen_7 (by decide) ?_
  refine g_callNv X (c_X10_put V oa 7 (nIf o) 0 0 (by omega) (by decide)) mo_X10_put kl_X0_76 [3] [0, 0, 0, 1] rfl (by decide +kernel) rfl rfl (fun _ => Nat.le_of_ble_eq_true rfl) (As := [.ref oa, .int 0, .int 0]) (st := []) (cs' := (0, 0)) rfl rfl rfl dX0_orderAsChosen_8 (fun nf_1 hp_2 ws_4 hw_3 => ?_)
  obtain rfl : nf_1 = upd (nIf o) 0 0 := hp_2
  have hw_3x : ws_4 = [(br, .inr (0, [.ref co, .ref oa, .ref lo])), (co, .inr (2, [.ref coc, .ref cob, .int mn])), (coc, .inl (V.2.2.1, 7, .inl (nIf ch))), (oa, .inl (V.2.2.1, 7, .inl (upd (nIf o) 0 0)))] := hw_3.symm
  clear hw_3; subst hw_3x
  refine g_iconst X (1) dX0_orderAsChosen_11 (by decide) ?_
  refine g_istore_n X (L' := [some (.ref br), some (.int (nI n)), some (.int 1), some (.int 1), none]) dX0_orderAsChosen_12 (by decide) rfl rfl ?_
  have loop13_6 : ∀ (d13 i : Nat), i + d13 = n → ∀ (t : Nat) (w1 : Nat → Int32) (hi1 : 1 ≤ i) (ht : t = tk ch (i - 1)) (hw : ∀ j, j < 7 → w1 j = nI (ordO i ch o j)), G V Z 5 (0, 0) [(br, .inr (0, [.ref co, .ref oa, .ref lo])), (co, .inr (2, [.ref coc, .ref cob, .int mn])), (coc, .inl (V.2.2.1, 7, .inl (nIf ch))), (oa, .inl (V.2.2.1, 7, .inl w1))] 13 [some (.ref br), some (.int (nI n)), some (.int (nI t)), some (.int (nI i)), none] [] := by
    intro d13
    induction d13 with
    | zero =>
      intro i hi t w1 hi1 ht hw
      have hvi : i < n → freeN t (ch (i - 1)) < n ∧ t < 256 ∧ ch (i - 1) < 1000 := fun h => by rw [ht]; exact hv (i - 1) (by omega)
      refine g_iload_n X dX0_orderAsChosen_13 rfl ?_
      refine g_iload_n X dX0_orderAsChosen_14 rfl ?_
      refine g_icmp_ge X 57 dX0_orderAsChosen_15 (by decide) (fun c15_7 => ?_) (fun c15_7 => absurd (tge (a := i) (b := n) (by omega) (by omega) (by omega)) c15_7)
      refine g_arr 3 (nIf (ordO n ch o)) rfl (by have e : i = n := (by omega); subst e; exact hw) (ws' := [(br, .inr (0, [.ref co, .ref oa, .ref lo])), (co, .inr (2, [.ref coc, .ref cob, .int mn])), (coc, .inl (V.2.2.1, 7, .inl (nIf ch))), (oa, .inl (V.2.2.1, 7, .inl (nIf (ordO n ch o))))]) rfl ?_
      exact g_vret X E dX0_orderAsChosen_57 () trivial rfl
    | succ d13 ih13 =>
      intro i hi t w1 hi1 ht hw
      have hvi : i < n → freeN t (ch (i - 1)) < n ∧ t < 256 ∧ ch (i - 1) < 1000 := fun h => by rw [ht]; exact hv (i - 1) (by omega)
      refine g_iload_n X dX0_orderAsChosen_13 rfl ?_
      refine g_iload_n X dX0_orderAsChosen_14 rfl ?_
      refine g_icmp_ge X 57 dX0_orderAsChosen_15 (by decide) (fun c15_8 => absurd c15_8 (fge (a := i) (b := n) (by omega) (by omega) (by omega))) (fun c15_8 => ?_)
      have hvj := hvi (by omega)
      refine g_iload_n X dX0_orderAsChosen_18 rfl ?_
      refine g_aload_n X dX0_orderAsChosen_19 rfl ?_
      refine g_get X uwX0 0 rfl rfl 0 (by decide) kl_X0_12 rfl rfl gwX0 dX0_orderAsChosen_20 ?_
      refine g_iload_n X dX0_orderAsChosen_23 rfl ?_
      refine g_iconst X (1) dX0_orderAsChosen_24 (by decide) ?_
      refine g_isub X dX0_orderAsChosen_25 ?_
      refine g_toe (x' := nI (i - 1)) (nI_sub' rfl rfl (by omega)) ?_
      refine g_callVi X (c_X2_choice V co coc cob ch mn (i - 1) (by omega)) mo_X2_choice kl_X0_80 [1, 2] [0, 1, 2, 0] rfl (by decide +kernel) rfl rfl (fun _ => Nat.le_of_ble_eq_true rfl) 1 2 rfl rfl (As := [.int (nI (i - 1))]) (st := [.int (nI t)]) (cs' := (0, 0)) rfl rfl rfl rfl dX0_orderAsChosen_26 (fun r_13 u_9 hp_10 ws_12 hw_11 => ?_)
      obtain rfl : r_13 = nI (ch (i - 1)) := hp_10
      have hw_11x : ws_12 = [(br, .inr (0, [.ref co, .ref oa, .ref lo])), (co, .inr (2, [.ref coc, .ref cob, .int mn])), (coc, .inl (V.2.2.1, 7, .inl (nIf ch))), (oa, .inl (V.2.2.1, 7, .inl w1))] := hw_11.symm
      clear hw_11; subst hw_11x
      refine g_callSi X (c_X2_free V t (ch (i - 1)) (by omega) (by omega) (by omega)) mo_X2_free kl_X0_84 [] [0, 0, 0, 0] rfl (by decide +kernel) rfl rfl (fun _ => Nat.le_of_ble_eq_true rfl) (As := [.int (nI t), .int (nI (ch (i - 1)))]) (st := []) (cs' := (0, 0)) rfl rfl rfl dX0_orderAsChosen_29 (fun r_18 u_14 hp_15 ws_17 hw_16 => ?_)
      obtain rfl : r_18 = nI (freeN t (ch (i - 1))) := hp_15
      have hw_16x : ws_17 = [(br, .inr (0, [.ref co, .ref oa, .ref lo])), (co, .inr (2, [.ref coc, .ref cob, .int mn])), (coc, .inl (V.2.2.1, 7, .inl (nIf ch))), (oa, .inl (V.2.2.1, 7, .inl w1))] := hw_16.symm
      clear hw_16; subst hw_16x
      refine g_istore X (L' := [some (.ref br), some (.int (nI n)), some (.int (nI t)), some (.int (nI i)), some (.int (nI (freeN t (ch (i - 1)))))]) dX0_orderAsChosen_32 (by decide) rfl rfl ?_
      refine g_aload_n X dX0_orderAsChosen_34 rfl ?_
      refine g_get X uwX0 0 rfl rfl 1 (by decide) kl_X0_18 rfl rfl gwX0 dX0_orderAsChosen_35 ?_
      refine g_iload_n X dX0_orderAsChosen_38 rfl ?_
      refine g_iload X dX0_orderAsChosen_39 rfl ?_
      refine g_callNv X (c_X10_put V oa 7 w1 i (nI (freeN t (ch (i - 1)))) (by omega) (by decide)) mo_X10_put kl_X0_76 [3] [0, 0, 0, 1] rfl (by decide +kernel) rfl rfl (fun _ => Nat.le_of_ble_eq_true rfl) (As := [.ref oa, .int (nI i), .int (nI (freeN t (ch (i - 1))))]) (st := []) (cs' := (0, 0)) rfl rfl rfl dX0_orderAsChosen_41 (fun nf_19 hp_20 ws_22 hw_21 => ?_)
      obtain rfl : nf_19 = upd w1 i (nI (freeN t (ch (i - 1)))) := hp_20
      have hw_21x : ws_22 = [(br, .inr (0, [.ref co, .ref oa, .ref lo])), (co, .inr (2, [.ref coc, .ref cob, .int mn])), (coc, .inl (V.2.2.1, 7, .inl (nIf ch))), (oa, .inl (V.2.2.1, 7, .inl (upd w1 i (nI (freeN t (ch (i - 1)))))))] := hw_21.symm
      clear hw_21; subst hw_21x
      refine g_iload_n X dX0_orderAsChosen_44 rfl ?_
      refine g_iconst X (1) dX0_orderAsChosen_45 (by decide) ?_
      refine g_iload X dX0_orderAsChosen_46 rfl ?_
      refine g_ishl X dX0_orderAsChosen_48 ?_
      refine g_ior X dX0_orderAsChosen_49 ?_
      refine g_toe (x' := nI (t ||| 2 ^ freeN t (ch (i - 1)))) (bitor t (by omega) _ (by omega)) ?_
      refine g_istore_n X (L' := [some (.ref br), some (.int (nI n)), some (.int (nI (t ||| 2 ^ freeN t (ch (i - 1))))), some (.int (nI i)), some (.int (nI (freeN t (ch (i - 1)))))]) dX0_orderAsChosen_50 (by decide) rfl rfl ?_
      refine g_iinc X (v := nI (i + 1)) (L' := [some (.ref br), some (.int (nI n)), some (.int (nI (t ||| 2 ^ freeN t (ch (i - 1))))), some (.int (nI (i + 1))), some (.int (nI (freeN t (ch (i - 1)))))]) dX0_orderAsChosen_51 rfl (nI_addk (by decide)) (by decide) rfl rfl ?_
      refine g_goto X 13 dX0_orderAsChosen_54 (by decide) ?_
      refine g_sub (L' := [some (.ref br), some (.int (nI n)), some (.int (nI (t ||| 2 ^ freeN t (ch (i - 1))))), some (.int (nI (i + 1))), none]) ⟨rfl, ⟨rfl, ⟨rfl, ⟨rfl, trivial⟩⟩⟩⟩ ?_
      exact ih13 (i + 1) (by omega) (t ||| 2 ^ freeN t (ch (i - 1))) (upd w1 i (nI (freeN t (ch (i - 1))))) (by omega) (tk_step hi1 ht) (ord_step hi1 ht hw)
  exact loop13_6 (n - 1) 1 (by omega) 1 (upd (nIf o) 0 0) (Nat.le_refl 1) rfl ord_0

set_option maxHeartbeats 4000000 in
set_option maxRecDepth 100000 in
theorem c_X0_comesAt (V : gV) (br : Nat) (co : Nat) (oa : Nat) (lo : Nat) (lor : Nat) (ls : Int32) (ro : Nat → Nat) (i : Nat) (hi : i < 7) : Ki V yX0_comesAt cX0_comesAt 2 .int ({ frames := 1, cells := 0, slots := 0, locals := 21 }) [.ref br, .int (nI i)] [(br, .inr (0, [.ref co, .ref oa, .ref lo])), (lo, .inr (5, [.ref lor, .int ls])), (lor, .inl (V.2.2.1, 7, .inl (nIf ro)))] (fun (r : Int32) (u : Unit) => r = nI (ro i)) (fun u => [(br, .inr (0, [.ref co, .ref oa, .ref lo])), (lo, .inr (5, [.ref lor, .int ls])), (lor, .inl (V.2.2.1, 7, .inl (nIf ro)))]) := by
  refine Ki.of [some (.ref br), some (.int (nI i))] (by decide) (Nat.le_of_ble_eq_true rfl) rfl rfl ?_
  intro Z X E
  have X : gX V Z RX0 cX0_comesAt 2 ({ frames := 1, cells := 0, slots := 0, locals := 21 }) := X
  refine g_aload_n X dX0_comesAt_0 rfl ?_
  refine g_get X uwX0 0 rfl rfl 2 (by decide) kl_X0_25 rfl rfl gwX0 dX0_comesAt_1 ?_
  refine g_getN X uwX5 1 rfl rfl 0 (by decide) kl_X0_88 rfl rfl gwX5 dX0_comesAt_4 ?_
  refine g_iload_n X dX0_comesAt_7 rfl ?_
  refine g_callNi X (c_X10_at V lor 7 (nIf ro) i (by omega) (by decide)) mo_X10_at kl_X0_56 [2] [0, 0, 1] rfl (by decide +kernel) rfl rfl (fun _ => Nat.le_of_ble_eq_true rfl) (As := [.ref lor, .int (nI i)]) (st := []) (cs' := (0, 0)) rfl rfl rfl dX0_comesAt_8 (fun r_5 u_1 hp_2 ws_4 hw_3 => ?_)
  obtain rfl : r_5 = (nIf ro) i := hp_2
  have hw_3x : ws_4 = [(br, .inr (0, [.ref co, .ref oa, .ref lo])), (lo, .inr (5, [.ref lor, .int ls])), (lor, .inl (V.2.2.1, 7, .inl (nIf ro)))] := hw_3.symm
  clear hw_3; subst hw_3x
  refine g_toe (nI (ro i)) rfl ?_
  exact g_iret X E dX0_comesAt_11 () (nI (ro i)) (by first | rfl | (simp []; done)) rfl

set_option maxHeartbeats 4000000 in
set_option maxRecDepth 100000 in
theorem c_X0_seek (V : gV) (br : Nat) (oa : Nat) (co : Nat) (coc : Nat) (cob : Nat) (ch : Nat → Nat) (bd : Nat → Nat) (mn : Nat) (od : Nat → Nat) (lo : Nat) (lor : Nat) (ls : Int32) (ro : Nat → Nat) (s : Nat) (sw : Nat) (sg : Nat) (day : Int32) (w : Nat → Int32) (g : Nat → Int32) (o : Nat) (ow_ : Nat) (og_ : Nat) (oday : Int32) (ow : Nat → Int32) (og : Nat → Int32) (h : Nat) (hk : Nat) (hfw : Nat) (hfg : Nat) (hwb : Nat) (hld : Nat) (hte : Nat) (hpu : Nat) (hnu : Nat) (n : Nat) (m : Nat) (hwa : Int32) (hto : Int32) (k : Nat → Int32) (hn : n ≤ 7) (h1n : 1 ≤ n) : Kv V yX0_seek cX0_seek 6 ({ frames := 3, cells := 0, slots := 0, locals := 67 }) [.ref br, .ref s, .ref o] [(br, .inr (0, [.ref co, .ref oa, .ref lo])), (co, .inr (2, [.ref coc, .ref cob, .int (nI mn)])), (coc, .inl (V.2.2.1, 7, .inl (nIf ch))), (cob, .inl (V.2.2.1, 7, .inl (nIf bd))), (oa, .inl (V.2.2.1, 7, .inl (nIf od))), (lo, .inr (5, [.ref lor, .int ls])), (lor, .inl (V.2.2.1, 7, .inl (nIf ro))), (s, .inr (8, [.ref h, .ref sw, .ref sg, .int day])), (sw, .inl (V.2.2.1, 7, .inl w)), (sg, .inl (V.2.2.1, 7, .inl g)), (o, .inr (8, [.ref h, .ref ow_, .ref og_, .int oday])), (ow_, .inl (V.2.2.1, 7, .inl ow)), (og_, .inl (V.2.2.1, 7, .inl og)), (h, .inr (4, [.ref hk, .ref hfw, .ref hfg, .ref hwb, .ref hld, .ref hte, .ref hpu, .int (nI n), .int hwa, .int (nI m), .ref hnu, .int hto])), (hk, .inl (V.2.2.1, 7, .inl k))] (fun u : Int32 × (Nat → Nat) × (Nat → Nat) × (Nat → Nat) × (Nat → Nat) × (Nat → Int32) × (Nat → Int32) × Int32 => u.1 = (bestR k day n w (waysR n)).1 ∧ ∀ j, j < n → u.2.1 j = (bestR k day n w (waysR n)).2 j) (fun u => [(br, .inr (0, [.ref co, .ref oa, .ref lo])), (co, .inr (2, [.ref coc, .ref cob, .int (nI (n - 1))])), (coc, .inl (V.2.2.1, 7, .inl (nIf u.2.2.2.1))), (cob, .inl (V.2.2.1, 7, .inl (nIf u.2.2.2.2.1))), (oa, .inl (V.2.2.1, 7, .inl (nIf u.2.2.1))), (lo, .inr (5, [.ref lor, .int u.1])), (lor, .inl (V.2.2.1, 7, .inl (nIf u.2.1))), (s, .inr (8, [.ref h, .ref sw, .ref sg, .int day])), (sw, .inl (V.2.2.1, 7, .inl w)), (sg, .inl (V.2.2.1, 7, .inl g)), (o, .inr (8, [.ref h, .ref ow_, .ref og_, .int u.2.2.2.2.2.2.2])), (ow_, .inl (V.2.2.1, 7, .inl u.2.2.2.2.2.1)), (og_, .inl (V.2.2.1, 7, .inl u.2.2.2.2.2.2.1)), (h, .inr (4, [.ref hk, .ref hfw, .ref hfg, .ref hwb, .ref hld, .ref hte, .ref hpu, .int (nI n), .int hwa, .int (nI m), .ref hnu, .int hto])), (hk, .inl (V.2.2.1, 7, .inl k))]) := by
  refine Kv.of [some (.ref br), some (.ref s), some (.ref o), none, none, none] (by decide) (Nat.le_of_ble_eq_true rfl) rfl rfl ?_
  intro Z X E
  have X : gX V Z RX0 cX0_seek 6 ({ frames := 3, cells := 0, slots := 0, locals := 67 }) := X
  refine g_aload_n X dX0_seek_0 rfl ?_
  refine g_getN X uwX8 7 rfl rfl 0 (by decide) kl_X0_29 rfl rfl gwX8 dX0_seek_1 ?_
  refine g_getN X uwX4 13 rfl rfl 7 (by decide) kl_X0_35 rfl rfl gwX4 dX0_seek_4 ?_
  refine g_istore_n X (L' := [some (.ref br), some (.ref s), some (.ref o), some (.int (nI n)), none, none]) dX0_seek_7 (by decide) rfl rfl ?_
  refine g_aload_n X dX0_seek_8 rfl ?_
  refine g_get X uwX0 0 rfl rfl 2 (by decide) kl_X0_25 rfl rfl gwX0 dX0_seek_9 ?_
  refine g_callVv X (c_X5_clear V lo lor ls) mo_X5_clear kl_X0_41 [5] [0, 0, 0, 0, 0, 1, 0, 0, 0, 0, 0, 0, 0, 0, 0] rfl (by decide +kernel) rfl rfl (fun _ => Nat.le_of_ble_eq_true rfl) 5 5 rfl rfl (As := []) (st := []) (cs' := (0, 0)) rfl rfl rfl rfl dX0_seek_12 (fun u_1 hp_2 ws_4 hw_3 => ?_)
  have hw_3x : ws_4 = [(br, .inr (0, [.ref co, .ref oa, .ref lo])), (co, .inr (2, [.ref coc, .ref cob, .int (nI mn)])), (coc, .inl (V.2.2.1, 7, .inl (nIf ch))), (cob, .inl (V.2.2.1, 7, .inl (nIf bd))), (oa, .inl (V.2.2.1, 7, .inl (nIf od))), (lo, .inr (5, [.ref lor, .int (-4)])), (lor, .inl (V.2.2.1, 7, .inl (nIf ro))), (s, .inr (8, [.ref h, .ref sw, .ref sg, .int day])), (sw, .inl (V.2.2.1, 7, .inl w)), (sg, .inl (V.2.2.1, 7, .inl g)), (o, .inr (8, [.ref h, .ref ow_, .ref og_, .int oday])), (ow_, .inl (V.2.2.1, 7, .inl ow)), (og_, .inl (V.2.2.1, 7, .inl og)), (h, .inr (4, [.ref hk, .ref hfw, .ref hfg, .ref hwb, .ref hld, .ref hte, .ref hpu, .int (nI n), .int hwa, .int (nI m), .ref hnu, .int hto])), (hk, .inl (V.2.2.1, 7, .inl k))] := hw_3.symm
  clear hw_3; subst hw_3x
  refine g_aload_n X dX0_seek_15 rfl ?_
  refine g_get X uwX0 0 rfl rfl 0 (by decide) kl_X0_12 rfl rfl gwX0 dX0_seek_16 ?_
  refine g_callVv X (c_X2_clear V co coc cob mn) mo_X2_clear kl_X0_44 [1] [0, 1, 0, 0, 0, 0, 0, 0, 0, 0, 0, 0, 0, 0, 0] rfl (by decide +kernel) rfl rfl (fun _ => Nat.le_of_ble_eq_true rfl) 1 2 rfl rfl (As := []) (st := []) (cs' := (0, 0)) rfl rfl rfl rfl dX0_seek_19 (fun u_6 hp_7 ws_9 hw_8 => ?_)
  have hw_8x : ws_9 = [(br, .inr (0, [.ref co, .ref oa, .ref lo])), (co, .inr (2, [.ref coc, .ref cob, .int (nI 0)])), (coc, .inl (V.2.2.1, 7, .inl (nIf ch))), (cob, .inl (V.2.2.1, 7, .inl (nIf bd))), (oa, .inl (V.2.2.1, 7, .inl (nIf od))), (lo, .inr (5, [.ref lor, .int (-4)])), (lor, .inl (V.2.2.1, 7, .inl (nIf ro))), (s, .inr (8, [.ref h, .ref sw, .ref sg, .int day])), (sw, .inl (V.2.2.1, 7, .inl w)), (sg, .inl (V.2.2.1, 7, .inl g)), (o, .inr (8, [.ref h, .ref ow_, .ref og_, .int oday])), (ow_, .inl (V.2.2.1, 7, .inl ow)), (og_, .inl (V.2.2.1, 7, .inl og)), (h, .inr (4, [.ref hk, .ref hfw, .ref hfg, .ref hwb, .ref hld, .ref hte, .ref hpu, .int (nI n), .int hwa, .int (nI m), .ref hnu, .int hto])), (hk, .inl (V.2.2.1, 7, .inl k))] := hw_8.symm
  clear hw_8; subst hw_8x
  refine g_iload_n X dX0_seek_22 rfl ?_
  refine g_iconst X (1) dX0_seek_23 (by decide) ?_
  refine g_isub X dX0_seek_24 ?_
  refine g_toe (x' := nI (n - 1)) (nI_sub' rfl rfl (by omega)) ?_
  refine g_istore X (L' := [some (.ref br), some (.ref s), some (.ref o), some (.int (nI n)), some (.int (nI (n - 1))), none]) dX0_seek_25 (by decide) rfl rfl ?_
  have loop27_11 : ∀ (d27 q : Nat), q + d27 = n - 1 → ∀ (c1 : Nat → Nat) (b1 : Nat → Nat) (hcb : ∀ i, i < q → c1 i = 0 ∧ b1 i = bdR n i), G V Z 6 (0, 0) [(br, .inr (0, [.ref co, .ref oa, .ref lo])), (co, .inr (2, [.ref coc, .ref cob, .int (nI q)])), (coc, .inl (V.2.2.1, 7, .inl (nIf c1))), (cob, .inl (V.2.2.1, 7, .inl (nIf b1))), (oa, .inl (V.2.2.1, 7, .inl (nIf od))), (lo, .inr (5, [.ref lor, .int (-4)])), (lor, .inl (V.2.2.1, 7, .inl (nIf ro))), (s, .inr (8, [.ref h, .ref sw, .ref sg, .int day])), (sw, .inl (V.2.2.1, 7, .inl w)), (sg, .inl (V.2.2.1, 7, .inl g)), (o, .inr (8, [.ref h, .ref ow_, .ref og_, .int oday])), (ow_, .inl (V.2.2.1, 7, .inl ow)), (og_, .inl (V.2.2.1, 7, .inl og)), (h, .inr (4, [.ref hk, .ref hfw, .ref hfg, .ref hwb, .ref hld, .ref hte, .ref hpu, .int (nI n), .int hwa, .int (nI m), .ref hnu, .int hto])), (hk, .inl (V.2.2.1, 7, .inl k))] 27 [some (.ref br), some (.ref s), some (.ref o), some (.int (nI n)), some (.int (nI (n - 1 - q))), none] [] := by
    intro d27
    induction d27 with
    | zero =>
      intro q hq c1 b1 hcb
      refine g_iload X dX0_seek_27 rfl ?_
      refine g_if_le X 47 dX0_seek_29 (by decide) (fun c29_12 => ?_) (fun c29_12 => absurd (tle (a := n - 1 - q) (b := 0) (by omega) (by omega) (by omega)) c29_12)
      have hq : q = n - 1 := (by omega)
      subst hq
      refine g_iconst X (0) dX0_seek_47 (by decide) ?_
      refine g_istore X (L' := [some (.ref br), some (.ref s), some (.ref o), some (.int (nI n)), some (.int 0), none]) dX0_seek_48 (by decide) rfl rfl ?_
      have loop50_13 : ∀ (d50 y : Nat), y + d50 = 720 → ∀ (c2 : Nat → Nat) (o2 : Nat → Nat) (sm : Int32) (r2 : Nat → Nat) (w2 : Nat → Int32) (g2 : Nat → Int32) (d2 : Int32) (hy : y < waysR n) (hc : ∀ i, i < n - 1 → c2 i = dgR n y i) (hs : sm = (bestR k day n w y).1) (hr : 0 < y → ∀ j, j < n → r2 j = (bestR k day n w y).2 j), G V Z 6 (0, 0) [(br, .inr (0, [.ref co, .ref oa, .ref lo])), (co, .inr (2, [.ref coc, .ref cob, .int (nI (n - 1))])), (coc, .inl (V.2.2.1, 7, .inl (nIf c2))), (cob, .inl (V.2.2.1, 7, .inl (nIf b1))), (oa, .inl (V.2.2.1, 7, .inl (nIf o2))), (lo, .inr (5, [.ref lor, .int sm])), (lor, .inl (V.2.2.1, 7, .inl (nIf r2))), (s, .inr (8, [.ref h, .ref sw, .ref sg, .int day])), (sw, .inl (V.2.2.1, 7, .inl w)), (sg, .inl (V.2.2.1, 7, .inl g)), (o, .inr (8, [.ref h, .ref ow_, .ref og_, .int d2])), (ow_, .inl (V.2.2.1, 7, .inl w2)), (og_, .inl (V.2.2.1, 7, .inl g2)), (h, .inr (4, [.ref hk, .ref hfw, .ref hfg, .ref hwb, .ref hld, .ref hte, .ref hpu, .int (nI n), .int hwa, .int (nI m), .ref hnu, .int hto])), (hk, .inl (V.2.2.1, 7, .inl k))] 50 [some (.ref br), some (.ref s), some (.ref o), some (.int (nI n)), some (.int (nI y)), none] [] := by
        intro d50
        induction d50 with
        | zero =>
          intro y hy c2 o2 sm r2 w2 g2 d2 hy hc hs hr
          exact absurd hy (by have := (ways_R n (by omega) h1n).2; omega)
        | succ d50 ih50 =>
          intro y hy c2 o2 sm r2 w2 g2 d2 hy hc hs hr
          refine g_iload X dX0_seek_50 rfl ?_
          refine g_sipush X (720) dX0_seek_52 (by decide) ?_
          refine g_icmp_ge X 139 dX0_seek_55 (by decide) (fun c55_14 => absurd c55_14 (fge (a := y) (b := 720) (by omega) (by omega) (by omega))) (fun c55_14 => ?_)
          refine g_aload_n X dX0_seek_58 rfl ?_
          refine g_iload_n X dX0_seek_59 rfl ?_
          refine g_callVv X (c_X0_orderAsChosen V br oa lo co coc cob c2 (nI (n - 1)) o2 n (by omega) (by omega) (fun i hi => by rw [tk_congr (fun j hj => hc j (by omega)), hc i hi]; exact ⟨(ord_R n (by omega) y hy i hi).1, (ord_R n (by omega) y hy i hi).2, dgR_lt hi hn⟩)) mo_X0_orderAsChosen kl_X0_49 [0, 1, 2, 4] [1, 2, 3, 0, 4, 0, 0, 0, 0, 0, 0, 0, 0, 0, 0] rfl (by decide +kernel) rfl rfl (fun _ => Nat.le_of_ble_eq_true rfl) 0 0 rfl rfl (As := [.int (nI n)]) (st := []) (cs' := (0, 0)) rfl rfl rfl rfl dX0_seek_60 (fun u_15 hp_16 ws_18 hw_17 => ?_)
          have hw_17x : ws_18 = [(br, .inr (0, [.ref co, .ref oa, .ref lo])), (co, .inr (2, [.ref coc, .ref cob, .int (nI (n - 1))])), (coc, .inl (V.2.2.1, 7, .inl (nIf c2))), (cob, .inl (V.2.2.1, 7, .inl (nIf b1))), (oa, .inl (V.2.2.1, 7, .inl (nIf (ordO n c2 o2)))), (lo, .inr (5, [.ref lor, .int sm])), (lor, .inl (V.2.2.1, 7, .inl (nIf r2))), (s, .inr (8, [.ref h, .ref sw, .ref sg, .int day])), (sw, .inl (V.2.2.1, 7, .inl w)), (sg, .inl (V.2.2.1, 7, .inl g)), (o, .inr (8, [.ref h, .ref ow_, .ref og_, .int d2])), (ow_, .inl (V.2.2.1, 7, .inl w2)), (og_, .inl (V.2.2.1, 7, .inl g2)), (h, .inr (4, [.ref hk, .ref hfw, .ref hfg, .ref hwb, .ref hld, .ref hte, .ref hpu, .int (nI n), .int hwa, .int (nI m), .ref hnu, .int hto])), (hk, .inl (V.2.2.1, 7, .inl k))] := hw_17.symm
          clear hw_17; subst hw_17x
          have hod : ∀ j, j < n → ordO n c2 o2 j = ordN (dgR n y) j := fun j hj => by rw [ordO, if_pos hj]; exact ordN_congr (q := n - 1) (fun i hi => hc i hi) j (by omega)
          have hol : ∀ j, j < n → ordO n c2 o2 j < n := fun j hj => by rw [hod j hj]; exact ord_R2 n (by omega) h1n y hy j hj
          refine g_aload_n X dX0_seek_63 rfl ?_
          refine g_aload_n X dX0_seek_64 rfl ?_
          refine g_callVv X (c_X8_takeFrom V o ow_ og_ d2 w2 g2 h s sw sg h day w g) mo_X8_takeFrom kl_X0_52 [10, 11, 12, 7, 8, 9] [0, 0, 0, 0, 0, 0, 0, 4, 5, 6, 1, 2, 3, 0, 0] rfl (by decide +kernel) rfl rfl (fun _ => Nat.le_of_ble_eq_true rfl) 10 8 rfl rfl (As := [.ref s]) (st := []) (cs' := (0, 0)) rfl rfl rfl rfl dX0_seek_65 (fun u_20 hp_21 ws_23 hw_22 => ?_)
          have hw_22x : ws_23 = [(br, .inr (0, [.ref co, .ref oa, .ref lo])), (co, .inr (2, [.ref coc, .ref cob, .int (nI (n - 1))])), (coc, .inl (V.2.2.1, 7, .inl (nIf c2))), (cob, .inl (V.2.2.1, 7, .inl (nIf b1))), (oa, .inl (V.2.2.1, 7, .inl (nIf (ordO n c2 o2)))), (lo, .inr (5, [.ref lor, .int sm])), (lor, .inl (V.2.2.1, 7, .inl (nIf r2))), (s, .inr (8, [.ref h, .ref sw, .ref sg, .int day])), (sw, .inl (V.2.2.1, 7, .inl w)), (sg, .inl (V.2.2.1, 7, .inl g)), (o, .inr (8, [.ref h, .ref ow_, .ref og_, .int day])), (ow_, .inl (V.2.2.1, 7, .inl w)), (og_, .inl (V.2.2.1, 7, .inl g)), (h, .inr (4, [.ref hk, .ref hfw, .ref hfg, .ref hwb, .ref hld, .ref hte, .ref hpu, .int (nI n), .int hwa, .int (nI m), .ref hnu, .int hto])), (hk, .inl (V.2.2.1, 7, .inl k))] := hw_22.symm
          clear hw_22; subst hw_22x
          refine g_iconst X (1) dX0_seek_68 (by decide) ?_
          refine g_istore X (L' := [some (.ref br), some (.ref s), some (.ref o), some (.int (nI n)), some (.int (nI y)), some (.int 1)]) dX0_seek_69 (by decide) rfl rfl ?_
          have loop71_25 : ∀ (d71 i : Nat), i + d71 = n → ∀ (w3 : Nat → Int32) (hi1 : 1 ≤ i) (hw3 : w3 = ringW k day (ordO n c2 o2) i w), G V Z 6 (0, 0) [(br, .inr (0, [.ref co, .ref oa, .ref lo])), (co, .inr (2, [.ref coc, .ref cob, .int (nI (n - 1))])), (coc, .inl (V.2.2.1, 7, .inl (nIf c2))), (cob, .inl (V.2.2.1, 7, .inl (nIf b1))), (oa, .inl (V.2.2.1, 7, .inl (nIf (ordO n c2 o2)))), (lo, .inr (5, [.ref lor, .int sm])), (lor, .inl (V.2.2.1, 7, .inl (nIf r2))), (s, .inr (8, [.ref h, .ref sw, .ref sg, .int day])), (sw, .inl (V.2.2.1, 7, .inl w)), (sg, .inl (V.2.2.1, 7, .inl g)), (o, .inr (8, [.ref h, .ref ow_, .ref og_, .int day])), (ow_, .inl (V.2.2.1, 7, .inl w3)), (og_, .inl (V.2.2.1, 7, .inl g)), (h, .inr (4, [.ref hk, .ref hfw, .ref hfg, .ref hwb, .ref hld, .ref hte, .ref hpu, .int (nI n), .int hwa, .int (nI m), .ref hnu, .int hto])), (hk, .inl (V.2.2.1, 7, .inl k))] 71 [some (.ref br), some (.ref s), some (.ref o), some (.int (nI n)), some (.int (nI y)), some (.int (nI i))] [] := by
            intro d71
            induction d71 with
            | zero =>
              intro i hi w3 hi1 hw3
              refine g_iload X dX0_seek_71 rfl ?_
              refine g_iload_n X dX0_seek_73 rfl ?_
              refine g_icmp_ge X 107 dX0_seek_74 (by decide) (fun c74_26 => ?_) (fun c74_26 => absurd (tge (a := i) (b := n) (by omega) (by omega) (by omega)) c74_26)
              have hwv : togF n w3 = togF n (ringW k day (ordO n c2 o2) n w) := by have e : i = n := (by omega); subst e; rw [hw3]
              refine g_aload_n X dX0_seek_107 rfl ?_
              refine g_get X uwX0 0 rfl rfl 2 (by decide) kl_X0_25 rfl rfl gwX0 dX0_seek_108 ?_
              refine g_aload_n X dX0_seek_111 rfl ?_
              refine g_callVi X (c_X8_wrongTogether V o ow_ og_ day w3 h hk hfw hfg hwb hld hte hpu hnu n m hwa hto (by omega)) mo_X8_wrongTogether kl_X0_64 [10, 11, 13] [0, 0, 0, 0, 0, 0, 0, 0, 0, 0, 1, 2, 0, 3, 0] rfl (by decide +kernel) rfl rfl (fun _ => Nat.le_of_ble_eq_true rfl) 10 8 rfl rfl (As := []) (st := [.ref lo]) (cs' := (0, 0)) rfl rfl rfl rfl dX0_seek_112 (fun r_31 u_27 hp_28 ws_30 hw_29 => ?_)
              obtain rfl : r_31 = togF n w3 := hp_28
              have hw_29x : ws_30 = [(br, .inr (0, [.ref co, .ref oa, .ref lo])), (co, .inr (2, [.ref coc, .ref cob, .int (nI (n - 1))])), (coc, .inl (V.2.2.1, 7, .inl (nIf c2))), (cob, .inl (V.2.2.1, 7, .inl (nIf b1))), (oa, .inl (V.2.2.1, 7, .inl (nIf (ordO n c2 o2)))), (lo, .inr (5, [.ref lor, .int sm])), (lor, .inl (V.2.2.1, 7, .inl (nIf r2))), (s, .inr (8, [.ref h, .ref sw, .ref sg, .int day])), (sw, .inl (V.2.2.1, 7, .inl w)), (sg, .inl (V.2.2.1, 7, .inl g)), (o, .inr (8, [.ref h, .ref ow_, .ref og_, .int day])), (ow_, .inl (V.2.2.1, 7, .inl w3)), (og_, .inl (V.2.2.1, 7, .inl g)), (h, .inr (4, [.ref hk, .ref hfw, .ref hfg, .ref hwb, .ref hld, .ref hte, .ref hpu, .int (nI n), .int hwa, .int (nI m), .ref hnu, .int hto])), (hk, .inl (V.2.2.1, 7, .inl k))] := hw_29.symm
              clear hw_29; subst hw_29x
              refine g_aload_n X dX0_seek_115 rfl ?_
              refine g_get X uwX0 0 rfl rfl 1 (by decide) kl_X0_18 rfl rfl gwX0 dX0_seek_116 ?_
              refine g_callVv X (c_X5_offer V lo lor (nIf r2) sm oa (nIf (ordO n c2 o2)) (togF n w3)) mo_X5_offer kl_X0_68 [5, 6, 4] [0, 0, 0, 0, 3, 1, 2, 0, 0, 0, 0, 0, 0, 0, 0] rfl (by decide +kernel) rfl rfl (fun _ => Nat.le_of_ble_eq_true rfl) 5 5 rfl rfl (As := [.int (togF n w3), .ref oa]) (st := []) (cs' := (0, 0)) rfl rfl rfl rfl dX0_seek_119 (fun u_32 hp_33 ws_35 hw_34 => ?_)
              obtain ⟨nf_37, ns_38⟩ := u_32
              obtain ⟨rfl, rfl⟩ : nf_37 = offR sm (togF n w3) (nIf r2) (nIf (ordO n c2 o2)) ∧ ns_38 = offR sm (togF n w3) sm (togF n w3) := hp_33
              have hw_34x : ws_35 = [(br, .inr (0, [.ref co, .ref oa, .ref lo])), (co, .inr (2, [.ref coc, .ref cob, .int (nI (n - 1))])), (coc, .inl (V.2.2.1, 7, .inl (nIf c2))), (cob, .inl (V.2.2.1, 7, .inl (nIf b1))), (oa, .inl (V.2.2.1, 7, .inl (nIf (ordO n c2 o2)))), (lo, .inr (5, [.ref lor, .int (offR sm (togF n w3) sm (togF n w3))])), (lor, .inl (V.2.2.1, 7, .inl (offR sm (togF n w3) (nIf r2) (nIf (ordO n c2 o2))))), (s, .inr (8, [.ref h, .ref sw, .ref sg, .int day])), (sw, .inl (V.2.2.1, 7, .inl w)), (sg, .inl (V.2.2.1, 7, .inl g)), (o, .inr (8, [.ref h, .ref ow_, .ref og_, .int day])), (ow_, .inl (V.2.2.1, 7, .inl w3)), (og_, .inl (V.2.2.1, 7, .inl g)), (h, .inr (4, [.ref hk, .ref hfw, .ref hfg, .ref hwb, .ref hld, .ref hte, .ref hpu, .int (nI n), .int hwa, .int (nI m), .ref hnu, .int hto])), (hk, .inl (V.2.2.1, 7, .inl k))] := hw_34.symm
              clear hw_34; subst hw_34x
              refine g_arr 6 (nIf (offR sm (togF n w3) r2 (ordO n c2 o2))) rfl (fun j _ => offR_nIf _ _ _ _ j) (ws' := [(br, .inr (0, [.ref co, .ref oa, .ref lo])), (co, .inr (2, [.ref coc, .ref cob, .int (nI (n - 1))])), (coc, .inl (V.2.2.1, 7, .inl (nIf c2))), (cob, .inl (V.2.2.1, 7, .inl (nIf b1))), (oa, .inl (V.2.2.1, 7, .inl (nIf (ordO n c2 o2)))), (lo, .inr (5, [.ref lor, .int (offR sm (togF n w3) sm (togF n w3))])), (lor, .inl (V.2.2.1, 7, .inl (nIf (offR sm (togF n w3) r2 (ordO n c2 o2))))), (s, .inr (8, [.ref h, .ref sw, .ref sg, .int day])), (sw, .inl (V.2.2.1, 7, .inl w)), (sg, .inl (V.2.2.1, 7, .inl g)), (o, .inr (8, [.ref h, .ref ow_, .ref og_, .int day])), (ow_, .inl (V.2.2.1, 7, .inl w3)), (og_, .inl (V.2.2.1, 7, .inl g)), (h, .inr (4, [.ref hk, .ref hfw, .ref hfg, .ref hwb, .ref hld, .ref hte, .ref hpu, .int (nI n), .int hwa, .int (nI m), .ref hnu, .int hto])), (hk, .inl (V.2.2.1, 7, .inl k))]) rfl ?_
              refine g_aload_n X dX0_seek_122 rfl ?_
              refine g_get X uwX0 0 rfl rfl 0 (by decide) kl_X0_12 rfl rfl gwX0 dX0_seek_123 ?_
              have hA := advF_congr (bd := b1) (bd' := bdR n) (q := n - 1) (fun i hi => (hcb i hi).2) (Nat.le_refl (n - 1)) hc
              have hA1 : (advF b1 (n - 1) c2).1 = decide (y + 1 < waysR n) := hA.1.trans (adv_R n (by omega) y hy).1
              refine g_callVi X (c_X2_advance V co coc cob c2 b1 (n - 1) (by omega) (fun i hi => ⟨by rw [(hcb i hi).2, bdR]; omega, by rw [hc i hi]; exact dgR_lt hi hn⟩)) mo_X2_advance kl_X0_72 [1, 2, 3] [0, 1, 2, 3, 0, 0, 0, 0, 0, 0, 0, 0, 0, 0, 0] rfl (by decide +kernel) rfl rfl (fun _ => Nat.le_of_ble_eq_true rfl) 1 2 rfl rfl (As := []) (st := []) (cs' := (0, 0)) rfl rfl rfl rfl dX0_seek_126 (fun r_43 nc_39 hp_40 ws_42 hw_41 => ?_)
              obtain ⟨rfl, rfl⟩ : r_43 = (if (advF b1 (n - 1) c2).1 = true then 1 else 0) ∧ nc_39 = (advF b1 (n - 1) c2).2 := hp_40
              have hw_41x : ws_42 = [(br, .inr (0, [.ref co, .ref oa, .ref lo])), (co, .inr (2, [.ref coc, .ref cob, .int (nI (n - 1))])), (coc, .inl (V.2.2.1, 7, .inl (nIf ((advF b1 (n - 1) c2).2)))), (cob, .inl (V.2.2.1, 7, .inl (nIf b1))), (oa, .inl (V.2.2.1, 7, .inl (nIf (ordO n c2 o2)))), (lo, .inr (5, [.ref lor, .int (offR sm (togF n w3) sm (togF n w3))])), (lor, .inl (V.2.2.1, 7, .inl (nIf (offR sm (togF n w3) r2 (ordO n c2 o2))))), (s, .inr (8, [.ref h, .ref sw, .ref sg, .int day])), (sw, .inl (V.2.2.1, 7, .inl w)), (sg, .inl (V.2.2.1, 7, .inl g)), (o, .inr (8, [.ref h, .ref ow_, .ref og_, .int day])), (ow_, .inl (V.2.2.1, 7, .inl w3)), (og_, .inl (V.2.2.1, 7, .inl g)), (h, .inr (4, [.ref hk, .ref hfw, .ref hfg, .ref hwb, .ref hld, .ref hte, .ref hpu, .int (nI n), .int hwa, .int (nI m), .ref hnu, .int hto])), (hk, .inl (V.2.2.1, 7, .inl k))] := hw_41.symm
              clear hw_41; subst hw_41x
              refine g_if_ne X 133 dX0_seek_129 (by decide) (fun c129_44 => ?_) (fun c129_44 => ?_)
              · have hadv : y + 1 < waysR n := by have z := c129_44; rw [hA1] at z; by_cases q9 : y + 1 < waysR n; exact q9; simp [q9] at z
                refine g_iinc X (v := nI (y + 1)) (L' := [some (.ref br), some (.ref s), some (.ref o), some (.int (nI n)), some (.int (nI (y + 1))), some (.int (nI i))]) dX0_seek_133 rfl (nI_addk (by decide)) (by decide) rfl rfl ?_
                refine g_goto X 50 dX0_seek_136 (by decide) ?_
                refine g_sub (L' := [some (.ref br), some (.ref s), some (.ref o), some (.int (nI n)), some (.int (nI (y + 1))), none]) ⟨rfl, ⟨rfl, ⟨rfl, ⟨rfl, ⟨rfl, trivial⟩⟩⟩⟩⟩ ?_
                exact ih50 (y + 1) (by omega) ((advF b1 (n - 1) c2).2) (ordO n c2 o2) (offR sm (togF n w3) sm (togF n w3)) (offR sm (togF n w3) r2 (ordO n c2 o2)) w3 g day hadv (fun i hi => (hA.2 i hi).trans ((adv_R n (by omega) y hy).2 hadv i hi)) (bestR_1 hs hod hwv) (fun _ => bestR_2 hs hod hwv hr)
              · have hadv : y + 1 = waysR n := by have z := c129_44; rw [hA1] at z; by_cases q9 : y + 1 < waysR n; simp [q9] at z; omega
                exact g_vret X E dX0_seek_132 ⟨offR sm (togF n w3) sm (togF n w3), offR sm (togF n w3) r2 (ordO n c2 o2), ordO n c2 o2, (advF b1 (n - 1) c2).2, b1, w3, g, day⟩ ⟨(by rw [← hadv]; exact bestR_1 hs hod hwv), (by rw [← hadv]; exact bestR_2 hs hod hwv hr)⟩ rfl
            | succ d71 ih71 =>
              intro i hi w3 hi1 hw3
              refine g_iload X dX0_seek_71 rfl ?_
              refine g_iload_n X dX0_seek_73 rfl ?_
              refine g_icmp_ge X 107 dX0_seek_74 (by decide) (fun c74_45 => absurd c74_45 (fge (a := i) (b := n) (by omega) (by omega) (by omega))) (fun c74_45 => ?_)
              refine g_aload_n X dX0_seek_77 rfl ?_
              refine g_aload_n X dX0_seek_78 rfl ?_
              refine g_get X uwX0 0 rfl rfl 1 (by decide) kl_X0_18 rfl rfl gwX0 dX0_seek_79 ?_
              refine g_iload X dX0_seek_82 rfl ?_
              refine g_iconst X (1) dX0_seek_84 (by decide) ?_
              refine g_isub X dX0_seek_85 ?_
              refine g_toe (x' := nI (i - 1)) (nI_sub' rfl rfl (by omega)) ?_
              refine g_callNi X (c_X10_at V oa 7 (nIf (ordO n c2 o2)) (i - 1) (by omega) (by decide)) mo_X10_at kl_X0_56 [4] [0, 0, 0, 0, 1, 0, 0, 0, 0, 0, 0, 0, 0, 0, 0] rfl (by decide +kernel) rfl rfl (fun _ => Nat.le_of_ble_eq_true rfl) (As := [.ref oa, .int (nI (i - 1))]) (st := [.ref o]) (cs' := (0, 0)) rfl rfl rfl dX0_seek_86 (fun r_50 u_46 hp_47 ws_49 hw_48 => ?_)
              obtain rfl : r_50 = (nIf (ordO n c2 o2)) (i - 1) := hp_47
              have hw_48x : ws_49 = [(br, .inr (0, [.ref co, .ref oa, .ref lo])), (co, .inr (2, [.ref coc, .ref cob, .int (nI (n - 1))])), (coc, .inl (V.2.2.1, 7, .inl (nIf c2))), (cob, .inl (V.2.2.1, 7, .inl (nIf b1))), (oa, .inl (V.2.2.1, 7, .inl (nIf (ordO n c2 o2)))), (lo, .inr (5, [.ref lor, .int sm])), (lor, .inl (V.2.2.1, 7, .inl (nIf r2))), (s, .inr (8, [.ref h, .ref sw, .ref sg, .int day])), (sw, .inl (V.2.2.1, 7, .inl w)), (sg, .inl (V.2.2.1, 7, .inl g)), (o, .inr (8, [.ref h, .ref ow_, .ref og_, .int day])), (ow_, .inl (V.2.2.1, 7, .inl w3)), (og_, .inl (V.2.2.1, 7, .inl g)), (h, .inr (4, [.ref hk, .ref hfw, .ref hfg, .ref hwb, .ref hld, .ref hte, .ref hpu, .int (nI n), .int hwa, .int (nI m), .ref hnu, .int hto])), (hk, .inl (V.2.2.1, 7, .inl k))] := hw_48.symm
              clear hw_48; subst hw_48x
              refine g_toe (nI ((ordO n c2 o2) (i - 1))) rfl ?_
              refine g_aload_n X dX0_seek_89 rfl ?_
              refine g_get X uwX0 0 rfl rfl 1 (by decide) kl_X0_18 rfl rfl gwX0 dX0_seek_90 ?_
              refine g_iload X dX0_seek_93 rfl ?_
              refine g_callNi X (c_X10_at V oa 7 (nIf (ordO n c2 o2)) i (by omega) (by decide)) mo_X10_at kl_X0_56 [4] [0, 0, 0, 0, 1, 0, 0, 0, 0, 0, 0, 0, 0, 0, 0] rfl (by decide +kernel) rfl rfl (fun _ => Nat.le_of_ble_eq_true rfl) (As := [.ref oa, .int (nI i)]) (st := [.int (nI ((ordO n c2 o2) (i - 1))), .ref o]) (cs' := (0, 0)) rfl rfl rfl dX0_seek_95 (fun r_55 u_51 hp_52 ws_54 hw_53 => ?_)
              obtain rfl : r_55 = (nIf (ordO n c2 o2)) i := hp_52
              have hw_53x : ws_54 = [(br, .inr (0, [.ref co, .ref oa, .ref lo])), (co, .inr (2, [.ref coc, .ref cob, .int (nI (n - 1))])), (coc, .inl (V.2.2.1, 7, .inl (nIf c2))), (cob, .inl (V.2.2.1, 7, .inl (nIf b1))), (oa, .inl (V.2.2.1, 7, .inl (nIf (ordO n c2 o2)))), (lo, .inr (5, [.ref lor, .int sm])), (lor, .inl (V.2.2.1, 7, .inl (nIf r2))), (s, .inr (8, [.ref h, .ref sw, .ref sg, .int day])), (sw, .inl (V.2.2.1, 7, .inl w)), (sg, .inl (V.2.2.1, 7, .inl g)), (o, .inr (8, [.ref h, .ref ow_, .ref og_, .int day])), (ow_, .inl (V.2.2.1, 7, .inl w3)), (og_, .inl (V.2.2.1, 7, .inl g)), (h, .inr (4, [.ref hk, .ref hfw, .ref hfg, .ref hwb, .ref hld, .ref hte, .ref hpu, .int (nI n), .int hwa, .int (nI m), .ref hnu, .int hto])), (hk, .inl (V.2.2.1, 7, .inl k))] := hw_53.symm
              clear hw_53; subst hw_53x
              refine g_toe (nI ((ordO n c2 o2) i)) rfl ?_
              refine g_callVv X (c_X8_learn V o ow_ og_ day w3 h hk hfw hfg hwb hld hte hpu hnu n m hwa hto k ((ordO n c2 o2) (i - 1)) ((ordO n c2 o2) i) (by have := hol (i - 1) (by omega); omega) (by have := hol i (by omega); omega)) mo_X8_learn kl_X0_60 [10, 11, 13, 14] [0, 0, 0, 0, 0, 0, 0, 0, 0, 0, 1, 2, 0, 3, 4] rfl (by decide +kernel) rfl rfl (fun _ => Nat.le_of_ble_eq_true rfl) 10 8 rfl rfl (As := [.int (nI ((ordO n c2 o2) (i - 1))), .int (nI ((ordO n c2 o2) i))]) (st := []) (cs' := (0, 0)) rfl rfl rfl rfl dX0_seek_98 (fun nw_56 hp_57 ws_59 hw_58 => ?_)
              obtain rfl : nw_56 = learnF k day ((ordO n c2 o2) (i - 1)) ((ordO n c2 o2) i) w3 := hp_57
              have hw_58x : ws_59 = [(br, .inr (0, [.ref co, .ref oa, .ref lo])), (co, .inr (2, [.ref coc, .ref cob, .int (nI (n - 1))])), (coc, .inl (V.2.2.1, 7, .inl (nIf c2))), (cob, .inl (V.2.2.1, 7, .inl (nIf b1))), (oa, .inl (V.2.2.1, 7, .inl (nIf (ordO n c2 o2)))), (lo, .inr (5, [.ref lor, .int sm])), (lor, .inl (V.2.2.1, 7, .inl (nIf r2))), (s, .inr (8, [.ref h, .ref sw, .ref sg, .int day])), (sw, .inl (V.2.2.1, 7, .inl w)), (sg, .inl (V.2.2.1, 7, .inl g)), (o, .inr (8, [.ref h, .ref ow_, .ref og_, .int day])), (ow_, .inl (V.2.2.1, 7, .inl (learnF k day ((ordO n c2 o2) (i - 1)) ((ordO n c2 o2) i) w3))), (og_, .inl (V.2.2.1, 7, .inl g)), (h, .inr (4, [.ref hk, .ref hfw, .ref hfg, .ref hwb, .ref hld, .ref hte, .ref hpu, .int (nI n), .int hwa, .int (nI m), .ref hnu, .int hto])), (hk, .inl (V.2.2.1, 7, .inl k))] := hw_58.symm
              clear hw_58; subst hw_58x
              refine g_iinc X (v := nI (i + 1)) (L' := [some (.ref br), some (.ref s), some (.ref o), some (.int (nI n)), some (.int (nI y)), some (.int (nI (i + 1)))]) dX0_seek_101 rfl (nI_addk (by decide)) (by decide) rfl rfl ?_
              refine g_goto X 71 dX0_seek_104 (by decide) ?_
              exact ih71 (i + 1) (by omega) (learnF k day ((ordO n c2 o2) (i - 1)) ((ordO n c2 o2) i) w3) (by omega) (by rw [ringW_s, if_neg (by omega), ← hw3])
          exact loop71_25 (n - 1) 1 (by omega) w (Nat.le_refl 1) rfl
      exact loop50_13 720 0 (by omega) c1 od (-4) ro ow og oday (by have := (ways_R n (by omega) h1n).1; omega) (fun i hi => by rw [(hcb i (by omega)).1, dgR_0 n (by omega) i hi]) rfl (fun h => absurd h (Nat.not_lt_zero 0))
    | succ d27 ih27 =>
      intro q hq c1 b1 hcb
      refine g_iload X dX0_seek_27 rfl ?_
      refine g_if_le X 47 dX0_seek_29 (by decide) (fun c29_61 => absurd c29_61 (fle (a := n - 1 - q) (b := 0) (by omega) (by omega) (by omega))) (fun c29_61 => ?_)
      refine g_aload_n X dX0_seek_32 rfl ?_
      refine g_get X uwX0 0 rfl rfl 0 (by decide) kl_X0_12 rfl rfl gwX0 dX0_seek_33 ?_
      refine g_iload X dX0_seek_36 rfl ?_
      refine g_callVv X (c_X2_addBound V co coc cob c1 b1 q (n - 1 - q) (by omega)) mo_X2_addBound kl_X0_45 [1, 2, 3] [0, 1, 2, 3, 0, 0, 0, 0, 0, 0, 0, 0, 0, 0, 0] rfl (by decide +kernel) rfl rfl (fun _ => Nat.le_of_ble_eq_true rfl) 1 2 rfl rfl (As := [.int (nI (n - 1 - q))]) (st := []) (cs' := (0, 0)) rfl rfl rfl rfl dX0_seek_38 (fun u_62 hp_63 ws_65 hw_64 => ?_)
      have hw_64x : ws_65 = [(br, .inr (0, [.ref co, .ref oa, .ref lo])), (co, .inr (2, [.ref coc, .ref cob, .int (nI (q + 1))])), (coc, .inl (V.2.2.1, 7, .inl (nIf (updN c1 q 0)))), (cob, .inl (V.2.2.1, 7, .inl (nIf (updN b1 q (n - 1 - q))))), (oa, .inl (V.2.2.1, 7, .inl (nIf od))), (lo, .inr (5, [.ref lor, .int (-4)])), (lor, .inl (V.2.2.1, 7, .inl (nIf ro))), (s, .inr (8, [.ref h, .ref sw, .ref sg, .int day])), (sw, .inl (V.2.2.1, 7, .inl w)), (sg, .inl (V.2.2.1, 7, .inl g)), (o, .inr (8, [.ref h, .ref ow_, .ref og_, .int oday])), (ow_, .inl (V.2.2.1, 7, .inl ow)), (og_, .inl (V.2.2.1, 7, .inl og)), (h, .inr (4, [.ref hk, .ref hfw, .ref hfg, .ref hwb, .ref hld, .ref hte, .ref hpu, .int (nI n), .int hwa, .int (nI m), .ref hnu, .int hto])), (hk, .inl (V.2.2.1, 7, .inl k))] := hw_64.symm
      clear hw_64; subst hw_64x
      refine g_iinc X (v := nI (n - 1 - (q + 1))) (L' := [some (.ref br), some (.ref s), some (.ref o), some (.int (nI n)), some (.int (nI (n - 1 - (q + 1)))), none]) dX0_seek_41 rfl (nI_dec' (by omega)) (by decide) rfl rfl ?_
      refine g_goto X 27 dX0_seek_44 (by decide) ?_
      exact ih27 (q + 1) (by omega) (updN c1 q 0) (updN b1 q (n - 1 - q)) (fun i hi => by rw [updN, updN]; by_cases e : i = q; rw [if_pos e, if_pos e, e]; exact ⟨rfl, rfl⟩; rw [if_neg e, if_neg e]; exact hcb i (by omega))
  exact loop27_11 (n - 1) 0 (by omega) ch bd (fun i hi => absurd hi (Nat.not_lt_zero i))

set_option maxHeartbeats 4000000 in
set_option maxRecDepth 100000 in
theorem c_X1_pairAsChosen (V : gV) (bt : Nat) (ma : Nat) (lo : Nat) (co : Nat) (coc : Nat) (cob : Nat) (ch : Nat → Nat) (mn : Int32) (mf : Nat → Int32) (s : Nat) (sw : Nat) (sg : Nat) (day : Int32) (w : Nat → Int32) (h : Nat) (n : Nat) (pl : Nat) (hn : n ≤ 7) (hpl : pl ≤ 8 ∧ pl % 2 = 0) (hv : ∀ j, j < pl / 2 → lo2 (tp ch j) < n ∧ hi2 (tp ch j) (ch j) < 8 ∧ tp ch j < 256 ∧ lo2 (tp ch j) ≠ hi2 (tp ch j) (ch j) ∧ ch j < 1000) : Ki V yX1_pairAsChosen cX1_pairAsChosen 9 .int ({ frames := 2, cells := 0, slots := 0, locals := 43 }) [.ref bt, .ref s, .int (nI n), .int (nI pl)] [(bt, .inr (1, [.ref co, .ref ma, .ref lo])), (co, .inr (2, [.ref coc, .ref cob, .int mn])), (coc, .inl (V.2.2.1, 7, .inl (nIf ch))), (ma, .inl (V.2.2.1, 7, .inl mf)), (s, .inr (8, [.ref h, .ref sw, .ref sg, .int day])), (sw, .inl (V.2.2.1, 7, .inl w))] (fun (r : Int32) (u : (Nat → Int32)) => r = sumF n w ch (pl / 2) ∧ u = mateF n ch (pl / 2) mf) (fun u => [(bt, .inr (1, [.ref co, .ref ma, .ref lo])), (co, .inr (2, [.ref coc, .ref cob, .int mn])), (coc, .inl (V.2.2.1, 7, .inl (nIf ch))), (ma, .inl (V.2.2.1, 7, .inl u)), (s, .inr (8, [.ref h, .ref sw, .ref sg, .int day])), (sw, .inl (V.2.2.1, 7, .inl w))]) := by
  refine Ki.of [some (.ref bt), some (.ref s), some (.int (nI n)), some (.int (nI pl)), none, none, none, none, none] (by decide) (Nat.le_of_ble_eq_true rfl) rfl rfl ?_
  intro Z X E
  have X : gX V Z RX1 cX1_pairAsChosen 9 ({ frames := 2, cells := 0, slots := 0, locals := 43 }) := X
  refine g_iconst X (0) dX1_pairAsChosen_0 (by decide) ?_
  refine g_istore X (L' := [some (.ref bt), some (.ref s), some (.int (nI n)), some (.int (nI pl)), some (.int 0), none, none, none, none]) dX1_pairAsChosen_1 (by decide) rfl rfl ?_
  refine g_iconst X (0) dX1_pairAsChosen_3 (by decide) ?_
  refine g_istore X (L' := [some (.ref bt), some (.ref s), some (.int (nI n)), some (.int (nI pl)), some (.int 0), some (.int 0), none, none, none]) dX1_pairAsChosen_4 (by decide) rfl rfl ?_
  refine g_iconst X (0) dX1_pairAsChosen_6 (by decide) ?_
  refine g_istore X (L' := [some (.ref bt), some (.ref s), some (.int (nI n)), some (.int (nI pl)), some (.int 0), some (.int 0), some (.int 0), none, none]) dX1_pairAsChosen_7 (by decide) rfl rfl ?_
  have loop9 : ∀ (d9 j : Nat), j + d9 = pl / 2 → ∀ (t : Nat) (sm : Int32) (m1 : Nat → Int32) (ht : t = tp ch j) (hs : sm = sumF n w ch j) (hm : m1 = mateF n ch j mf), G V Z 9 (0, 0) [(bt, .inr (1, [.ref co, .ref ma, .ref lo])), (co, .inr (2, [.ref coc, .ref cob, .int mn])), (coc, .inl (V.2.2.1, 7, .inl (nIf ch))), (ma, .inl (V.2.2.1, 7, .inl m1)), (s, .inr (8, [.ref h, .ref sw, .ref sg, .int day])), (sw, .inl (V.2.2.1, 7, .inl w))] 9 [some (.ref bt), some (.ref s), some (.int (nI n)), some (.int (nI pl)), some (.int (nI t)), some (.int sm), some (.int (nI j)), none, none] [] := by
    intro d9
    induction d9 with
    | zero =>
      intro j hj t sm m1 ht hs hm
      refine g_iconst X (2) dX1_pairAsChosen_9 (by decide) ?_
      refine g_iload X dX1_pairAsChosen_10 rfl ?_
      refine g_imul X dX1_pairAsChosen_12 ?_
      refine g_toe (x' := nI (2 * j)) (nI_mul' rfl rfl) ?_
      refine g_iload_n X dX1_pairAsChosen_13 rfl ?_
      refine g_icmp_ge X 120 dX1_pairAsChosen_14 (by decide) (fun c14_1 => ?_) (fun c14_1 => absurd (tge (a := 2 * j) (b := pl) (by omega) (by omega) (by omega)) c14_1)
      refine g_iload X dX1_pairAsChosen_120 rfl ?_
      exact g_iret X E dX1_pairAsChosen_122 m1 sm ⟨(by have e : j = pl / 2 := (by omega); subst e; exact hs), (by have e : j = pl / 2 := (by omega); subst e; exact hm)⟩ rfl
    | succ d9 ih9 =>
      intro j hj t sm m1 ht hs hm
      refine g_iconst X (2) dX1_pairAsChosen_9 (by decide) ?_
      refine g_iload X dX1_pairAsChosen_10 rfl ?_
      refine g_imul X dX1_pairAsChosen_12 ?_
      refine g_toe (x' := nI (2 * j)) (nI_mul' rfl rfl) ?_
      refine g_iload_n X dX1_pairAsChosen_13 rfl ?_
      refine g_icmp_ge X 120 dX1_pairAsChosen_14 (by decide) (fun c14_2 => absurd c14_2 (fge (a := 2 * j) (b := pl) (by omega) (by omega) (by omega))) (fun c14_2 => ?_)
      have hvj : freeN t 0 < n ∧ freeN (t ||| 2 ^ freeN t 0) (ch j) < 8 ∧ t < 256 ∧ freeN t 0 ≠ freeN (t ||| 2 ^ freeN t 0) (ch j) ∧ ch j < 1000 := by rw [ht]; exact hv j (by omega)
      have ht2 := bitor_lt (t := t) (c := freeN t 0) (by omega) (by omega)
      refine g_iload X dX1_pairAsChosen_17 rfl ?_
      refine g_iconst X (0) dX1_pairAsChosen_19 (by decide) ?_
      refine g_callSi X (c_X2_free V t 0 (by omega) (by omega) (by omega)) mo_X2_free kl_X1_61 [] [0, 0, 0, 0, 0, 0] rfl (by decide +kernel) rfl rfl (fun _ => Nat.le_of_ble_eq_true rfl) (As := [.int (nI t), .int 0]) (st := []) (cs' := (0, 0)) rfl rfl rfl dX1_pairAsChosen_20 (fun r_7 u_3 hp_4 ws_6 hw_5 => ?_)
      obtain rfl : r_7 = nI (freeN t 0) := hp_4
      have hw_5x : ws_6 = [(bt, .inr (1, [.ref co, .ref ma, .ref lo])), (co, .inr (2, [.ref coc, .ref cob, .int mn])), (coc, .inl (V.2.2.1, 7, .inl (nIf ch))), (ma, .inl (V.2.2.1, 7, .inl m1)), (s, .inr (8, [.ref h, .ref sw, .ref sg, .int day])), (sw, .inl (V.2.2.1, 7, .inl w))] := hw_5.symm
      clear hw_5; subst hw_5x
      refine g_istore X (L' := [some (.ref bt), some (.ref s), some (.int (nI n)), some (.int (nI pl)), some (.int (nI t)), some (.int sm), some (.int (nI j)), some (.int (nI (freeN t 0))), none]) dX1_pairAsChosen_23 (by decide) rfl rfl ?_
      refine g_iload X dX1_pairAsChosen_25 rfl ?_
      refine g_iconst X (1) dX1_pairAsChosen_27 (by decide) ?_
      refine g_iload X dX1_pairAsChosen_28 rfl ?_
      refine g_ishl X dX1_pairAsChosen_30 ?_
      refine g_ior X dX1_pairAsChosen_31 ?_
      refine g_toe (x' := nI (t ||| 2 ^ freeN t 0)) (bitor t (by omega) _ (by omega)) ?_
      refine g_istore X (L' := [some (.ref bt), some (.ref s), some (.int (nI n)), some (.int (nI pl)), some (.int (nI (t ||| 2 ^ freeN t 0))), some (.int sm), some (.int (nI j)), some (.int (nI (freeN t 0))), none]) dX1_pairAsChosen_32 (by decide) rfl rfl ?_
      refine g_iload X dX1_pairAsChosen_34 rfl ?_
      refine g_aload_n X dX1_pairAsChosen_36 rfl ?_
      refine g_get X uwX1 0 rfl rfl 0 (by decide) kl_X1_12 rfl rfl gwX1 dX1_pairAsChosen_37 ?_
      refine g_iload X dX1_pairAsChosen_40 rfl ?_
      refine g_callVi X (c_X2_choice V co coc cob ch mn j (by omega)) mo_X2_choice kl_X1_65 [1, 2] [0, 1, 2, 0, 0, 0] rfl (by decide +kernel) rfl rfl (fun _ => Nat.le_of_ble_eq_true rfl) 1 2 rfl rfl (As := [.int (nI j)]) (st := [.int (nI (t ||| 2 ^ freeN t 0))]) (cs' := (0, 0)) rfl rfl rfl rfl dX1_pairAsChosen_42 (fun r_12 u_8 hp_9 ws_11 hw_10 => ?_)
      obtain rfl : r_12 = nI (ch j) := hp_9
      have hw_10x : ws_11 = [(bt, .inr (1, [.ref co, .ref ma, .ref lo])), (co, .inr (2, [.ref coc, .ref cob, .int mn])), (coc, .inl (V.2.2.1, 7, .inl (nIf ch))), (ma, .inl (V.2.2.1, 7, .inl m1)), (s, .inr (8, [.ref h, .ref sw, .ref sg, .int day])), (sw, .inl (V.2.2.1, 7, .inl w))] := hw_10.symm
      clear hw_10; subst hw_10x
      refine g_callSi X (c_X2_free V (t ||| 2 ^ freeN t 0) (ch j) ht2 (by omega) (by omega)) mo_X2_free kl_X1_61 [] [0, 0, 0, 0, 0, 0] rfl (by decide +kernel) rfl rfl (fun _ => Nat.le_of_ble_eq_true rfl) (As := [.int (nI (t ||| 2 ^ freeN t 0)), .int (nI (ch j))]) (st := []) (cs' := (0, 0)) rfl rfl rfl dX1_pairAsChosen_45 (fun r_17 u_13 hp_14 ws_16 hw_15 => ?_)
      obtain rfl : r_17 = nI (freeN (t ||| 2 ^ freeN t 0) (ch j)) := hp_14
      have hw_15x : ws_16 = [(bt, .inr (1, [.ref co, .ref ma, .ref lo])), (co, .inr (2, [.ref coc, .ref cob, .int mn])), (coc, .inl (V.2.2.1, 7, .inl (nIf ch))), (ma, .inl (V.2.2.1, 7, .inl m1)), (s, .inr (8, [.ref h, .ref sw, .ref sg, .int day])), (sw, .inl (V.2.2.1, 7, .inl w))] := hw_15.symm
      clear hw_15; subst hw_15x
      refine g_istore X (L' := [some (.ref bt), some (.ref s), some (.int (nI n)), some (.int (nI pl)), some (.int (nI (t ||| 2 ^ freeN t 0))), some (.int sm), some (.int (nI j)), some (.int (nI (freeN t 0))), some (.int (nI (freeN (t ||| 2 ^ freeN t 0) (ch j))))]) dX1_pairAsChosen_48 (by decide) rfl rfl ?_
      refine g_iload X dX1_pairAsChosen_50 rfl ?_
      refine g_iconst X (1) dX1_pairAsChosen_52 (by decide) ?_
      refine g_iload X dX1_pairAsChosen_53 rfl ?_
      refine g_ishl X dX1_pairAsChosen_55 ?_
      refine g_ior X dX1_pairAsChosen_56 ?_
      refine g_toe (x' := nI (t ||| 2 ^ freeN t 0 ||| 2 ^ freeN (t ||| 2 ^ freeN t 0) (ch j))) (bitor _ ht2 _ (by omega)) ?_
      refine g_istore X (L' := [some (.ref bt), some (.ref s), some (.int (nI n)), some (.int (nI pl)), some (.int (nI (t ||| 2 ^ freeN t 0 ||| 2 ^ freeN (t ||| 2 ^ freeN t 0) (ch j)))), some (.int sm), some (.int (nI j)), some (.int (nI (freeN t 0))), some (.int (nI (freeN (t ||| 2 ^ freeN t 0) (ch j))))]) dX1_pairAsChosen_57 (by decide) rfl rfl ?_
      refine g_iload X dX1_pairAsChosen_59 rfl ?_
      refine g_iload_n X dX1_pairAsChosen_61 rfl ?_
      refine g_icmp_ge X 103 dX1_pairAsChosen_62 (by decide) (fun c62_18 => ?_) (fun c62_18 => ?_)
      · have c62_18n := ige' (a := freeN (t ||| 2 ^ freeN t 0) (ch j)) (b := n) c62_18 (by omega) (by omega)
        refine g_aload_n X dX1_pairAsChosen_103 rfl ?_
        refine g_get X uwX1 0 rfl rfl 1 (by decide) kl_X1_18 rfl rfl gwX1 dX1_pairAsChosen_104 ?_
        refine g_iload X dX1_pairAsChosen_107 rfl ?_
        refine g_bipush X (-4) dX1_pairAsChosen_109 (by decide) ?_
        refine g_callNv X (c_X10_put V ma 7 m1 (freeN t 0) (-4) (by omega) (by decide)) mo_X10_put kl_X1_69 [3] [0, 0, 0, 1, 0, 0] rfl (by decide +kernel) rfl rfl (fun _ => Nat.le_of_ble_eq_true rfl) (As := [.ref ma, .int (nI (freeN t 0)), .int (-4)]) (st := []) (cs' := (0, 0)) rfl rfl rfl dX1_pairAsChosen_111 (fun nf_19 hp_20 ws_22 hw_21 => ?_)
        obtain rfl : nf_19 = upd m1 (freeN t 0) (-4) := hp_20
        have hw_21x : ws_22 = [(bt, .inr (1, [.ref co, .ref ma, .ref lo])), (co, .inr (2, [.ref coc, .ref cob, .int mn])), (coc, .inl (V.2.2.1, 7, .inl (nIf ch))), (ma, .inl (V.2.2.1, 7, .inl (upd m1 (freeN t 0) (-4)))), (s, .inr (8, [.ref h, .ref sw, .ref sg, .int day])), (sw, .inl (V.2.2.1, 7, .inl w))] := hw_21.symm
        clear hw_21; subst hw_21x
        refine g_iinc X (v := nI (j + 1)) (L' := [some (.ref bt), some (.ref s), some (.int (nI n)), some (.int (nI pl)), some (.int (nI (t ||| 2 ^ freeN t 0 ||| 2 ^ freeN (t ||| 2 ^ freeN t 0) (ch j)))), some (.int sm), some (.int (nI (j + 1))), some (.int (nI (freeN t 0))), some (.int (nI (freeN (t ||| 2 ^ freeN t 0) (ch j))))]) dX1_pairAsChosen_114 rfl (nI_addk (by decide)) (by decide) rfl rfl ?_
        refine g_goto X 9 dX1_pairAsChosen_117 (by decide) ?_
        refine g_sub (L' := [some (.ref bt), some (.ref s), some (.int (nI n)), some (.int (nI pl)), some (.int (nI (t ||| 2 ^ freeN t 0 ||| 2 ^ freeN (t ||| 2 ^ freeN t 0) (ch j)))), some (.int sm), some (.int (nI (j + 1))), none, none]) ⟨rfl, ⟨rfl, ⟨rfl, ⟨rfl, ⟨rfl, ⟨rfl, ⟨rfl, trivial⟩⟩⟩⟩⟩⟩⟩ ?_
        exact ih9 (j + 1) (by omega) (t ||| 2 ^ freeN t 0 ||| 2 ^ freeN (t ||| 2 ^ freeN t 0) (ch j)) sm (upd m1 (freeN t 0) (-4)) (by rw [tp, ← ht]; rfl) (by rw [sumF_s, ← ht, ← hs, lo2, hi2, if_neg (by omega)]) (by rw [mateF_s, ← ht, ← hm, lo2, hi2, if_neg (by omega)])
      · have c62_18n := inge' (a := freeN (t ||| 2 ^ freeN t 0) (ch j)) (b := n) c62_18 (by omega) (by omega)
        refine g_aload_n X dX1_pairAsChosen_65 rfl ?_
        refine g_get X uwX1 0 rfl rfl 1 (by decide) kl_X1_18 rfl rfl gwX1 dX1_pairAsChosen_66 ?_
        refine g_iload X dX1_pairAsChosen_69 rfl ?_
        refine g_iload X dX1_pairAsChosen_71 rfl ?_
        refine g_callNv X (c_X10_put V ma 7 m1 (freeN t 0) (nI (freeN (t ||| 2 ^ freeN t 0) (ch j))) (by omega) (by decide)) mo_X10_put kl_X1_69 [3] [0, 0, 0, 1, 0, 0] rfl (by decide +kernel) rfl rfl (fun _ => Nat.le_of_ble_eq_true rfl) (As := [.ref ma, .int (nI (freeN t 0)), .int (nI (freeN (t ||| 2 ^ freeN t 0) (ch j)))]) (st := []) (cs' := (0, 0)) rfl rfl rfl dX1_pairAsChosen_73 (fun nf_24 hp_25 ws_27 hw_26 => ?_)
        obtain rfl : nf_24 = upd m1 (freeN t 0) (nI (freeN (t ||| 2 ^ freeN t 0) (ch j))) := hp_25
        have hw_26x : ws_27 = [(bt, .inr (1, [.ref co, .ref ma, .ref lo])), (co, .inr (2, [.ref coc, .ref cob, .int mn])), (coc, .inl (V.2.2.1, 7, .inl (nIf ch))), (ma, .inl (V.2.2.1, 7, .inl (upd m1 (freeN t 0) (nI (freeN (t ||| 2 ^ freeN t 0) (ch j)))))), (s, .inr (8, [.ref h, .ref sw, .ref sg, .int day])), (sw, .inl (V.2.2.1, 7, .inl w))] := hw_26.symm
        clear hw_26; subst hw_26x
        refine g_aload_n X dX1_pairAsChosen_76 rfl ?_
        refine g_get X uwX1 0 rfl rfl 1 (by decide) kl_X1_18 rfl rfl gwX1 dX1_pairAsChosen_77 ?_
        refine g_iload X dX1_pairAsChosen_80 rfl ?_
        refine g_iload X dX1_pairAsChosen_82 rfl ?_
        refine g_callNv X (c_X10_put V ma 7 (upd m1 (freeN t 0) (nI (freeN (t ||| 2 ^ freeN t 0) (ch j)))) (freeN (t ||| 2 ^ freeN t 0) (ch j)) (nI (freeN t 0)) (by omega) (by decide)) mo_X10_put kl_X1_69 [3] [0, 0, 0, 1, 0, 0] rfl (by decide +kernel) rfl rfl (fun _ => Nat.le_of_ble_eq_true rfl) (As := [.ref ma, .int (nI (freeN (t ||| 2 ^ freeN t 0) (ch j))), .int (nI (freeN t 0))]) (st := []) (cs' := (0, 0)) rfl rfl rfl dX1_pairAsChosen_84 (fun nf_29 hp_30 ws_32 hw_31 => ?_)
        obtain rfl : nf_29 = upd (upd m1 (freeN t 0) (nI (freeN (t ||| 2 ^ freeN t 0) (ch j)))) (freeN (t ||| 2 ^ freeN t 0) (ch j)) (nI (freeN t 0)) := hp_30
        have hw_31x : ws_32 = [(bt, .inr (1, [.ref co, .ref ma, .ref lo])), (co, .inr (2, [.ref coc, .ref cob, .int mn])), (coc, .inl (V.2.2.1, 7, .inl (nIf ch))), (ma, .inl (V.2.2.1, 7, .inl (upd (upd m1 (freeN t 0) (nI (freeN (t ||| 2 ^ freeN t 0) (ch j)))) (freeN (t ||| 2 ^ freeN t 0) (ch j)) (nI (freeN t 0))))), (s, .inr (8, [.ref h, .ref sw, .ref sg, .int day])), (sw, .inl (V.2.2.1, 7, .inl w))] := hw_31.symm
        clear hw_31; subst hw_31x
        refine g_iload X dX1_pairAsChosen_87 rfl ?_
        refine g_aload_n X dX1_pairAsChosen_89 rfl ?_
        refine g_iload X dX1_pairAsChosen_90 rfl ?_
        refine g_iload X dX1_pairAsChosen_92 rfl ?_
        refine g_callVi X (c_X8_minutesApart V s sw sg day w h (freeN t 0) (freeN (t ||| 2 ^ freeN t 0) (ch j)) (by omega) (by omega)) mo_X8_minutesApart kl_X1_73 [4, 5] [0, 0, 0, 0, 1, 2] rfl (by decide +kernel) rfl rfl (fun _ => Nat.le_of_ble_eq_true rfl) 4 8 rfl rfl (As := [.int (nI (freeN t 0)), .int (nI (freeN (t ||| 2 ^ freeN t 0) (ch j)))]) (st := [.int sm]) (cs' := (0, 0)) rfl rfl rfl rfl dX1_pairAsChosen_94 (fun r_38 u_34 hp_35 ws_37 hw_36 => ?_)
        obtain rfl : r_38 = apartF w (freeN t 0) (freeN (t ||| 2 ^ freeN t 0) (ch j)) := hp_35
        have hw_36x : ws_37 = [(bt, .inr (1, [.ref co, .ref ma, .ref lo])), (co, .inr (2, [.ref coc, .ref cob, .int mn])), (coc, .inl (V.2.2.1, 7, .inl (nIf ch))), (ma, .inl (V.2.2.1, 7, .inl (upd (upd m1 (freeN t 0) (nI (freeN (t ||| 2 ^ freeN t 0) (ch j)))) (freeN (t ||| 2 ^ freeN t 0) (ch j)) (nI (freeN t 0))))), (s, .inr (8, [.ref h, .ref sw, .ref sg, .int day])), (sw, .inl (V.2.2.1, 7, .inl w))] := hw_36.symm
        clear hw_36; subst hw_36x
        refine g_iadd X dX1_pairAsChosen_97 ?_
        refine g_istore X (L' := [some (.ref bt), some (.ref s), some (.int (nI n)), some (.int (nI pl)), some (.int (nI (t ||| 2 ^ freeN t 0 ||| 2 ^ freeN (t ||| 2 ^ freeN t 0) (ch j)))), some (.int (sm + (apartF w (freeN t 0) (freeN (t ||| 2 ^ freeN t 0) (ch j))))), some (.int (nI j)), some (.int (nI (freeN t 0))), some (.int (nI (freeN (t ||| 2 ^ freeN t 0) (ch j))))]) dX1_pairAsChosen_98 (by decide) rfl rfl ?_
        refine g_goto X 114 dX1_pairAsChosen_100 (by decide) ?_
        refine g_iinc X (v := nI (j + 1)) (L' := [some (.ref bt), some (.ref s), some (.int (nI n)), some (.int (nI pl)), some (.int (nI (t ||| 2 ^ freeN t 0 ||| 2 ^ freeN (t ||| 2 ^ freeN t 0) (ch j)))), some (.int (sm + (apartF w (freeN t 0) (freeN (t ||| 2 ^ freeN t 0) (ch j))))), some (.int (nI (j + 1))), some (.int (nI (freeN t 0))), some (.int (nI (freeN (t ||| 2 ^ freeN t 0) (ch j))))]) dX1_pairAsChosen_114 rfl (nI_addk (by decide)) (by decide) rfl rfl ?_
        refine g_goto X 9 dX1_pairAsChosen_117 (by decide) ?_
        refine g_sub (L' := [some (.ref bt), some (.ref s), some (.int (nI n)), some (.int (nI pl)), some (.int (nI (t ||| 2 ^ freeN t 0 ||| 2 ^ freeN (t ||| 2 ^ freeN t 0) (ch j)))), some (.int (sm + (apartF w (freeN t 0) (freeN (t ||| 2 ^ freeN t 0) (ch j))))), some (.int (nI (j + 1))), none, none]) ⟨rfl, ⟨rfl, ⟨rfl, ⟨rfl, ⟨rfl, ⟨rfl, ⟨rfl, trivial⟩⟩⟩⟩⟩⟩⟩ ?_
        exact ih9 (j + 1) (by omega) (t ||| 2 ^ freeN t 0 ||| 2 ^ freeN (t ||| 2 ^ freeN t 0) (ch j)) (sm + (apartF w (freeN t 0) (freeN (t ||| 2 ^ freeN t 0) (ch j)))) (upd (upd m1 (freeN t 0) (nI (freeN (t ||| 2 ^ freeN t 0) (ch j)))) (freeN (t ||| 2 ^ freeN t 0) (ch j)) (nI (freeN t 0))) (by rw [tp, ← ht]; rfl) (by rw [sumF_s, ← ht, ← hs, lo2, hi2, if_pos (show freeN (t ||| 2 ^ freeN t 0) (ch j) < n by omega)]) (by rw [mateF_s, ← ht, ← hm, lo2, hi2, if_pos (show freeN (t ||| 2 ^ freeN t 0) (ch j) < n by omega)])
  exact loop9 (pl / 2) 0 (by omega) 0 0 mf rfl rfl rfl

set_option maxHeartbeats 4000000 in
set_option maxRecDepth 100000 in
theorem c_X1_mateOf (V : gV) (bt : Nat) (co : Nat) (ma : Nat) (lo : Nat) (lor : Nat) (ls : Int32) (lf : Nat → Int32) (i : Nat) (hi : i < 7) : Ki V yX1_mateOf cX1_mateOf 2 .int ({ frames := 1, cells := 0, slots := 0, locals := 21 }) [.ref bt, .int (nI i)] [(bt, .inr (1, [.ref co, .ref ma, .ref lo])), (lo, .inr (5, [.ref lor, .int ls])), (lor, .inl (V.2.2.1, 7, .inl lf))] (fun (r : Int32) (u : Unit) => r = lf i) (fun u => [(bt, .inr (1, [.ref co, .ref ma, .ref lo])), (lo, .inr (5, [.ref lor, .int ls])), (lor, .inl (V.2.2.1, 7, .inl lf))]) := by
  refine Ki.of [some (.ref bt), some (.int (nI i))] (by decide) (Nat.le_of_ble_eq_true rfl) rfl rfl ?_
  intro Z X E
  have X : gX V Z RX1 cX1_mateOf 2 ({ frames := 1, cells := 0, slots := 0, locals := 21 }) := X
  refine g_aload_n X dX1_mateOf_0 rfl ?_
  refine g_get X uwX1 0 rfl rfl 2 (by decide) kl_X1_25 rfl rfl gwX1 dX1_mateOf_1 ?_
  refine g_getN X uwX5 1 rfl rfl 0 (by decide) kl_X1_76 rfl rfl gwX5 dX1_mateOf_4 ?_
  refine g_iload_n X dX1_mateOf_7 rfl ?_
  refine g_callNi X (c_X10_at V lor 7 lf i (by omega) (by decide)) mo_X10_at kl_X1_79 [2] [0, 0, 1] rfl (by decide +kernel) rfl rfl (fun _ => Nat.le_of_ble_eq_true rfl) (As := [.ref lor, .int (nI i)]) (st := []) (cs' := (0, 0)) rfl rfl rfl dX1_mateOf_8 (fun r_5 u_1 hp_2 ws_4 hw_3 => ?_)
  obtain rfl : r_5 = lf i := hp_2
  have hw_3x : ws_4 = [(bt, .inr (1, [.ref co, .ref ma, .ref lo])), (lo, .inr (5, [.ref lor, .int ls])), (lor, .inl (V.2.2.1, 7, .inl lf))] := hw_3.symm
  clear hw_3; subst hw_3x
  exact g_iret X E dX1_mateOf_11 () (lf i) (by first | rfl | (simp []; done)) rfl

set_option maxHeartbeats 4000000 in
set_option maxRecDepth 100000 in
theorem c_X1_seek (V : gV) (bt : Nat) (ma : Nat) (co : Nat) (coc : Nat) (cob : Nat) (ch : Nat → Nat) (bd : Nat → Nat) (mn : Nat) (mf : Nat → Int32) (lo : Nat) (lor : Nat) (lf : Nat → Int32) (ls : Int32) (s : Nat) (sw : Nat) (sg : Nat) (day : Int32) (w : Nat → Int32) (h : Nat) (hk : Nat) (hfw : Nat) (hfg : Nat) (hwb : Nat) (hld : Nat) (hte : Nat) (hpu : Nat) (hnu : Nat) (n : Nat) (m : Nat) (hwa : Int32) (hto : Int32) (hn : n ≤ 7) (h1n : 1 ≤ n) : Kv V yX1_seek cX1_seek 5 ({ frames := 3, cells := 0, slots := 0, locals := 71 }) [.ref bt, .ref s] [(bt, .inr (1, [.ref co, .ref ma, .ref lo])), (co, .inr (2, [.ref coc, .ref cob, .int (nI mn)])), (coc, .inl (V.2.2.1, 7, .inl (nIf ch))), (cob, .inl (V.2.2.1, 7, .inl (nIf bd))), (ma, .inl (V.2.2.1, 7, .inl mf)), (lo, .inr (5, [.ref lor, .int ls])), (lor, .inl (V.2.2.1, 7, .inl lf)), (s, .inr (8, [.ref h, .ref sw, .ref sg, .int day])), (sw, .inl (V.2.2.1, 7, .inl w)), (h, .inr (4, [.ref hk, .ref hfw, .ref hfg, .ref hwb, .ref hld, .ref hte, .ref hpu, .int (nI n), .int hwa, .int (nI m), .ref hnu, .int hto]))] (fun u : Int32 × (Nat → Int32) × (Nat → Int32) × (Nat → Nat) × (Nat → Nat) => u.1 = (bestP n w (waysP n)).1 ∧ ∀ j, j < n → u.2.1 j = (bestP n w (waysP n)).2 j) (fun u => [(bt, .inr (1, [.ref co, .ref ma, .ref lo])), (co, .inr (2, [.ref coc, .ref cob, .int (nI ((n + n % 2) / 2))])), (coc, .inl (V.2.2.1, 7, .inl (nIf u.2.2.2.1))), (cob, .inl (V.2.2.1, 7, .inl (nIf u.2.2.2.2))), (ma, .inl (V.2.2.1, 7, .inl u.2.2.1)), (lo, .inr (5, [.ref lor, .int u.1])), (lor, .inl (V.2.2.1, 7, .inl u.2.1)), (s, .inr (8, [.ref h, .ref sw, .ref sg, .int day])), (sw, .inl (V.2.2.1, 7, .inl w)), (h, .inr (4, [.ref hk, .ref hfw, .ref hfg, .ref hwb, .ref hld, .ref hte, .ref hpu, .int (nI n), .int hwa, .int (nI m), .ref hnu, .int hto]))]) := by
  refine Kv.of [some (.ref bt), some (.ref s), none, none, none] (by decide) (Nat.le_of_ble_eq_true rfl) rfl rfl ?_
  intro Z X E
  have X : gX V Z RX1 cX1_seek 5 ({ frames := 3, cells := 0, slots := 0, locals := 71 }) := X
  refine g_aload_n X dX1_seek_0 rfl ?_
  refine g_getN X uwX8 7 rfl rfl 0 (by decide) kl_X1_29 rfl rfl gwX8 dX1_seek_1 ?_
  refine g_getN X uwX4 9 rfl rfl 7 (by decide) kl_X1_35 rfl rfl gwX4 dX1_seek_4 ?_
  refine g_istore_n X (L' := [some (.ref bt), some (.ref s), some (.int (nI n)), none, none]) dX1_seek_7 (by decide) rfl rfl ?_
  refine g_iload_n X dX1_seek_8 rfl ?_
  refine g_iload_n X dX1_seek_9 rfl ?_
  refine g_iconst X (2) dX1_seek_10 (by decide) ?_
  refine g_rem X dX1_seek_11 (by decide) ?_
  refine g_toe (x' := nI (n % 2)) (nI_mod' rfl rfl (by omega) (by omega) (by omega)) ?_
  refine g_iadd X dX1_seek_12 ?_
  refine g_toe (x' := nI (n + (n % 2))) (nI_add' rfl rfl) ?_
  refine g_istore_n X (L' := [some (.ref bt), some (.ref s), some (.int (nI n)), some (.int (nI (n + (n % 2)))), none]) dX1_seek_13 (by decide) rfl rfl ?_
  refine g_aload_n X dX1_seek_14 rfl ?_
  refine g_get X uwX1 0 rfl rfl 2 (by decide) kl_X1_25 rfl rfl gwX1 dX1_seek_15 ?_
  refine g_callVv X (c_X5_clear V lo lor ls) mo_X5_clear kl_X1_41 [5] [0, 0, 0, 0, 0, 1, 0, 0, 0, 0] rfl (by decide +kernel) rfl rfl (fun _ => Nat.le_of_ble_eq_true rfl) 5 5 rfl rfl (As := []) (st := []) (cs' := (0, 0)) rfl rfl rfl rfl dX1_seek_18 (fun u_1 hp_2 ws_4 hw_3 => ?_)
  have hw_3x : ws_4 = [(bt, .inr (1, [.ref co, .ref ma, .ref lo])), (co, .inr (2, [.ref coc, .ref cob, .int (nI mn)])), (coc, .inl (V.2.2.1, 7, .inl (nIf ch))), (cob, .inl (V.2.2.1, 7, .inl (nIf bd))), (ma, .inl (V.2.2.1, 7, .inl mf)), (lo, .inr (5, [.ref lor, .int (-4)])), (lor, .inl (V.2.2.1, 7, .inl lf)), (s, .inr (8, [.ref h, .ref sw, .ref sg, .int day])), (sw, .inl (V.2.2.1, 7, .inl w)), (h, .inr (4, [.ref hk, .ref hfw, .ref hfg, .ref hwb, .ref hld, .ref hte, .ref hpu, .int (nI n), .int hwa, .int (nI m), .ref hnu, .int hto]))] := hw_3.symm
  clear hw_3; subst hw_3x
  refine g_aload_n X dX1_seek_21 rfl ?_
  refine g_get X uwX1 0 rfl rfl 0 (by decide) kl_X1_12 rfl rfl gwX1 dX1_seek_22 ?_
  refine g_callVv X (c_X2_clear V co coc cob mn) mo_X2_clear kl_X1_44 [1] [0, 1, 0, 0, 0, 0, 0, 0, 0, 0] rfl (by decide +kernel) rfl rfl (fun _ => Nat.le_of_ble_eq_true rfl) 1 2 rfl rfl (As := []) (st := []) (cs' := (0, 0)) rfl rfl rfl rfl dX1_seek_25 (fun u_6 hp_7 ws_9 hw_8 => ?_)
  have hw_8x : ws_9 = [(bt, .inr (1, [.ref co, .ref ma, .ref lo])), (co, .inr (2, [.ref coc, .ref cob, .int (nI 0)])), (coc, .inl (V.2.2.1, 7, .inl (nIf ch))), (cob, .inl (V.2.2.1, 7, .inl (nIf bd))), (ma, .inl (V.2.2.1, 7, .inl mf)), (lo, .inr (5, [.ref lor, .int (-4)])), (lor, .inl (V.2.2.1, 7, .inl lf)), (s, .inr (8, [.ref h, .ref sw, .ref sg, .int day])), (sw, .inl (V.2.2.1, 7, .inl w)), (h, .inr (4, [.ref hk, .ref hfw, .ref hfg, .ref hwb, .ref hld, .ref hte, .ref hpu, .int (nI n), .int hwa, .int (nI m), .ref hnu, .int hto]))] := hw_8.symm
  clear hw_8; subst hw_8x
  refine g_iload_n X dX1_seek_28 rfl ?_
  refine g_iconst X (1) dX1_seek_29 (by decide) ?_
  refine g_isub X dX1_seek_30 ?_
  refine g_toe (x' := nI (n + n % 2 - 2 * 0) - 1) rfl ?_
  refine g_istore X (L' := [some (.ref bt), some (.ref s), some (.int (nI n)), some (.int (nI (n + (n % 2)))), some (.int (nI (n + n % 2 - 2 * 0) - 1))]) dX1_seek_31 (by decide) rfl rfl ?_
  have loop33_11 : ∀ (d33 q : Nat), q + d33 = (n + n % 2) / 2 → ∀ (c1 : Nat → Nat) (b1 : Nat → Nat) (hcb : ∀ i, i < q → c1 i = 0 ∧ b1 i = bdP n i), G V Z 5 (0, 0) [(bt, .inr (1, [.ref co, .ref ma, .ref lo])), (co, .inr (2, [.ref coc, .ref cob, .int (nI q)])), (coc, .inl (V.2.2.1, 7, .inl (nIf c1))), (cob, .inl (V.2.2.1, 7, .inl (nIf b1))), (ma, .inl (V.2.2.1, 7, .inl mf)), (lo, .inr (5, [.ref lor, .int (-4)])), (lor, .inl (V.2.2.1, 7, .inl lf)), (s, .inr (8, [.ref h, .ref sw, .ref sg, .int day])), (sw, .inl (V.2.2.1, 7, .inl w)), (h, .inr (4, [.ref hk, .ref hfw, .ref hfg, .ref hwb, .ref hld, .ref hte, .ref hpu, .int (nI n), .int hwa, .int (nI m), .ref hnu, .int hto]))] 33 [some (.ref bt), some (.ref s), some (.int (nI n)), some (.int (nI (n + n % 2))), some (.int (nI (n + n % 2 - 2 * q) - 1))] [] := by
    intro d33
    induction d33 with
    | zero =>
      intro q hq c1 b1 hcb
      refine g_cast (L' := [some (.ref bt), some (.ref s), some (.int (nI n)), some (.int (nI (n + n % 2))), some (.int (-1))]) ?_ rfl (by rw [show nI (n + n % 2 - 2 * q) - 1 = -1 from (by rw [show n + n % 2 - 2 * q = 0 by omega]; decide)]) rfl
      refine g_iload X dX1_seek_33 rfl ?_
      refine g_if_le X 53 dX1_seek_35 (by decide) (fun c35_12 => ?_) (fun c35_12 => absurd (by decide) c35_12)
      have hq : q = (n + n % 2) / 2 := (by omega)
      subst hq
      refine g_iconst X (0) dX1_seek_53 (by decide) ?_
      refine g_istore X (L' := [some (.ref bt), some (.ref s), some (.int (nI n)), some (.int (nI (n + n % 2))), some (.int 0)]) dX1_seek_54 (by decide) rfl rfl ?_
      have loop56_13 : ∀ (d56 y : Nat), y + d56 = 720 → ∀ (c2 : Nat → Nat) (m2 : Nat → Int32) (sm : Int32) (l2 : Nat → Int32) (hy : y < waysP n) (hc : ∀ i, i < places n / 2 → c2 i = dgP n y i) (hs : sm = (bestP n w y).1) (hr : 0 < y → ∀ j, j < n → l2 j = (bestP n w y).2 j), G V Z 5 (0, 0) [(bt, .inr (1, [.ref co, .ref ma, .ref lo])), (co, .inr (2, [.ref coc, .ref cob, .int (nI ((n + n % 2) / 2))])), (coc, .inl (V.2.2.1, 7, .inl (nIf c2))), (cob, .inl (V.2.2.1, 7, .inl (nIf b1))), (ma, .inl (V.2.2.1, 7, .inl m2)), (lo, .inr (5, [.ref lor, .int sm])), (lor, .inl (V.2.2.1, 7, .inl l2)), (s, .inr (8, [.ref h, .ref sw, .ref sg, .int day])), (sw, .inl (V.2.2.1, 7, .inl w)), (h, .inr (4, [.ref hk, .ref hfw, .ref hfg, .ref hwb, .ref hld, .ref hte, .ref hpu, .int (nI n), .int hwa, .int (nI m), .ref hnu, .int hto]))] 56 [some (.ref bt), some (.ref s), some (.int (nI n)), some (.int (nI (n + n % 2))), some (.int (nI y))] [] := by
        intro d56
        induction d56 with
        | zero =>
          intro y hy c2 m2 sm l2 hy hc hs hr
          exact absurd hy (by have := (ways_P n (by omega)).2; omega)
        | succ d56 ih56 =>
          intro y hy c2 m2 sm l2 hy hc hs hr
          refine g_iload X dX1_seek_56 rfl ?_
          refine g_sipush X (720) dX1_seek_58 (by decide) ?_
          refine g_icmp_ge X 99 dX1_seek_61 (by decide) (fun c61_14 => absurd c61_14 (fge (a := y) (b := 720) (by omega) (by omega) (by omega))) (fun c61_14 => ?_)
          have hmt : ∀ j, j < n → mateF n c2 ((n + n % 2) / 2) m2 j = mateF n (dgP n y) (places n / 2) (fun _ => 0) j := fun j hj => by rw [show (n + n % 2) / 2 = places n / 2 from rfl, mateF_congr hc]; exact mate_any (by omega) hy hj _ _
          have hsum : sumF n w c2 ((n + n % 2) / 2) = sumF n w (dgP n y) (places n / 2) := sumF_congr hc
          refine g_aload_n X dX1_seek_64 rfl ?_
          refine g_get X uwX1 0 rfl rfl 2 (by decide) kl_X1_25 rfl rfl gwX1 dX1_seek_65 ?_
          refine g_aload_n X dX1_seek_68 rfl ?_
          refine g_aload_n X dX1_seek_69 rfl ?_
          refine g_iload_n X dX1_seek_70 rfl ?_
          refine g_iload_n X dX1_seek_71 rfl ?_
          refine g_callVi X (c_X1_pairAsChosen V bt ma lo co coc cob c2 (nI ((n + n % 2) / 2)) m2 s sw sg day w h n (n + n % 2) (by omega) (by omega) (fun j hj => by rw [tp_congr (fun i hi => hc i (Nat.lt_trans hi hj)), hc j hj]; exact ⟨(two_P n (by omega) y hy j hj).1, (two_P n (by omega) y hy j hj).2.1, (two_P n (by omega) y hy j hj).2.2.1, (two_P n (by omega) y hy j hj).2.2.2, dgP_lt hj hn⟩)) mo_X1_pairAsChosen kl_X1_49 [0, 1, 2, 4, 7, 8] [1, 2, 3, 0, 4, 0, 0, 5, 6, 0] rfl (by decide +kernel) rfl rfl (fun _ => Nat.le_of_ble_eq_true rfl) 0 1 rfl rfl (As := [.ref s, .int (nI n), .int (nI (n + n % 2))]) (st := [.ref lo]) (cs' := (0, 0)) rfl rfl rfl rfl dX1_seek_72 (fun r_19 nm_15 hp_16 ws_18 hw_17 => ?_)
          obtain ⟨rfl, rfl⟩ : r_19 = sumF n w c2 ((n + n % 2) / 2) ∧ nm_15 = mateF n c2 ((n + n % 2) / 2) m2 := hp_16
          have hw_17x : ws_18 = [(bt, .inr (1, [.ref co, .ref ma, .ref lo])), (co, .inr (2, [.ref coc, .ref cob, .int (nI ((n + n % 2) / 2))])), (coc, .inl (V.2.2.1, 7, .inl (nIf c2))), (cob, .inl (V.2.2.1, 7, .inl (nIf b1))), (ma, .inl (V.2.2.1, 7, .inl (mateF n c2 ((n + n % 2) / 2) m2))), (lo, .inr (5, [.ref lor, .int sm])), (lor, .inl (V.2.2.1, 7, .inl l2)), (s, .inr (8, [.ref h, .ref sw, .ref sg, .int day])), (sw, .inl (V.2.2.1, 7, .inl w)), (h, .inr (4, [.ref hk, .ref hfw, .ref hfg, .ref hwb, .ref hld, .ref hte, .ref hpu, .int (nI n), .int hwa, .int (nI m), .ref hnu, .int hto]))] := hw_17.symm
          clear hw_17; subst hw_17x
          refine g_aload_n X dX1_seek_75 rfl ?_
          refine g_get X uwX1 0 rfl rfl 1 (by decide) kl_X1_18 rfl rfl gwX1 dX1_seek_76 ?_
          refine g_callVv X (c_X5_offer V lo lor l2 sm ma (mateF n c2 ((n + n % 2) / 2) m2) (sumF n w c2 ((n + n % 2) / 2))) mo_X5_offer kl_X1_53 [5, 6, 4] [0, 0, 0, 0, 3, 1, 2, 0, 0, 0] rfl (by decide +kernel) rfl rfl (fun _ => Nat.le_of_ble_eq_true rfl) 5 5 rfl rfl (As := [.int (sumF n w c2 ((n + n % 2) / 2)), .ref ma]) (st := []) (cs' := (0, 0)) rfl rfl rfl rfl dX1_seek_79 (fun u_20 hp_21 ws_23 hw_22 => ?_)
          obtain ⟨nf_25, ns_26⟩ := u_20
          obtain ⟨rfl, rfl⟩ : nf_25 = offR sm (sumF n w c2 ((n + n % 2) / 2)) l2 (mateF n c2 ((n + n % 2) / 2) m2) ∧ ns_26 = offR sm (sumF n w c2 ((n + n % 2) / 2)) sm (sumF n w c2 ((n + n % 2) / 2)) := hp_21
          have hw_22x : ws_23 = [(bt, .inr (1, [.ref co, .ref ma, .ref lo])), (co, .inr (2, [.ref coc, .ref cob, .int (nI ((n + n % 2) / 2))])), (coc, .inl (V.2.2.1, 7, .inl (nIf c2))), (cob, .inl (V.2.2.1, 7, .inl (nIf b1))), (ma, .inl (V.2.2.1, 7, .inl (mateF n c2 ((n + n % 2) / 2) m2))), (lo, .inr (5, [.ref lor, .int (offR sm (sumF n w c2 ((n + n % 2) / 2)) sm (sumF n w c2 ((n + n % 2) / 2)))])), (lor, .inl (V.2.2.1, 7, .inl (offR sm (sumF n w c2 ((n + n % 2) / 2)) l2 (mateF n c2 ((n + n % 2) / 2) m2)))), (s, .inr (8, [.ref h, .ref sw, .ref sg, .int day])), (sw, .inl (V.2.2.1, 7, .inl w)), (h, .inr (4, [.ref hk, .ref hfw, .ref hfg, .ref hwb, .ref hld, .ref hte, .ref hpu, .int (nI n), .int hwa, .int (nI m), .ref hnu, .int hto]))] := hw_22.symm
          clear hw_22; subst hw_22x
          refine g_aload_n X dX1_seek_82 rfl ?_
          refine g_get X uwX1 0 rfl rfl 0 (by decide) kl_X1_12 rfl rfl gwX1 dX1_seek_83 ?_
          have hA := advF_congr (bd := b1) (bd' := bdP n) (q := places n / 2) (fun i hi => (hcb i hi).2) (Nat.le_refl (places n / 2)) hc
          have hA1 : (advF b1 ((n + n % 2) / 2) c2).1 = decide (y + 1 < waysP n) := hA.1.trans (adv_P n (by omega) y hy).1
          refine g_callVi X (c_X2_advance V co coc cob c2 b1 ((n + n % 2) / 2) (by omega) (fun i hi => ⟨by rw [(hcb i hi).2, bdP, places]; omega, by rw [hc i hi]; exact dgP_lt hi hn⟩)) mo_X2_advance kl_X1_57 [1, 2, 3] [0, 1, 2, 3, 0, 0, 0, 0, 0, 0] rfl (by decide +kernel) rfl rfl (fun _ => Nat.le_of_ble_eq_true rfl) 1 2 rfl rfl (As := []) (st := []) (cs' := (0, 0)) rfl rfl rfl rfl dX1_seek_86 (fun r_31 nc_27 hp_28 ws_30 hw_29 => ?_)
          obtain ⟨rfl, rfl⟩ : r_31 = (if (advF b1 ((n + n % 2) / 2) c2).1 = true then 1 else 0) ∧ nc_27 = (advF b1 ((n + n % 2) / 2) c2).2 := hp_28
          have hw_29x : ws_30 = [(bt, .inr (1, [.ref co, .ref ma, .ref lo])), (co, .inr (2, [.ref coc, .ref cob, .int (nI ((n + n % 2) / 2))])), (coc, .inl (V.2.2.1, 7, .inl (nIf ((advF b1 ((n + n % 2) / 2) c2).2)))), (cob, .inl (V.2.2.1, 7, .inl (nIf b1))), (ma, .inl (V.2.2.1, 7, .inl (mateF n c2 ((n + n % 2) / 2) m2))), (lo, .inr (5, [.ref lor, .int (offR sm (sumF n w c2 ((n + n % 2) / 2)) sm (sumF n w c2 ((n + n % 2) / 2)))])), (lor, .inl (V.2.2.1, 7, .inl (offR sm (sumF n w c2 ((n + n % 2) / 2)) l2 (mateF n c2 ((n + n % 2) / 2) m2)))), (s, .inr (8, [.ref h, .ref sw, .ref sg, .int day])), (sw, .inl (V.2.2.1, 7, .inl w)), (h, .inr (4, [.ref hk, .ref hfw, .ref hfg, .ref hwb, .ref hld, .ref hte, .ref hpu, .int (nI n), .int hwa, .int (nI m), .ref hnu, .int hto]))] := hw_29.symm
          clear hw_29; subst hw_29x
          refine g_if_ne X 93 dX1_seek_89 (by decide) (fun c89_32 => ?_) (fun c89_32 => ?_)
          · have hadv : y + 1 < waysP n := by have z := c89_32; rw [hA1] at z; by_cases q9 : y + 1 < waysP n; exact q9; simp [q9] at z
            refine g_iinc X (v := nI (y + 1)) (L' := [some (.ref bt), some (.ref s), some (.int (nI n)), some (.int (nI (n + n % 2))), some (.int (nI (y + 1)))]) dX1_seek_93 rfl (nI_addk (by decide)) (by decide) rfl rfl ?_
            refine g_goto X 56 dX1_seek_96 (by decide) ?_
            exact ih56 (y + 1) (by omega) ((advF b1 ((n + n % 2) / 2) c2).2) (mateF n c2 ((n + n % 2) / 2) m2) (offR sm (sumF n w c2 ((n + n % 2) / 2)) sm (sumF n w c2 ((n + n % 2) / 2))) (offR sm (sumF n w c2 ((n + n % 2) / 2)) l2 (mateF n c2 ((n + n % 2) / 2) m2)) hadv (fun i hi => (hA.2 i hi).trans ((adv_P n (by omega) y hy).2 hadv i hi)) (by rw [hsum, hs]; rfl) (fun _ => bestP_2 hs hmt hsum hr)
          · have hadv : y + 1 = waysP n := by have z := c89_32; rw [hA1] at z; by_cases q9 : y + 1 < waysP n; simp [q9] at z; omega
            exact g_vret X E dX1_seek_92 ⟨offR sm (sumF n w c2 ((n + n % 2) / 2)) sm (sumF n w c2 ((n + n % 2) / 2)), offR sm (sumF n w c2 ((n + n % 2) / 2)) l2 (mateF n c2 ((n + n % 2) / 2) m2), mateF n c2 ((n + n % 2) / 2) m2, (advF b1 ((n + n % 2) / 2) c2).2, b1⟩ ⟨(by rw [← hadv, hsum, hs]; rfl), (by rw [← hadv]; exact bestP_2 hs hmt hsum hr)⟩ rfl
      exact loop56_13 720 0 (by omega) c1 mf (-4) lf (by have := (ways_P n (by omega)).1; omega) (fun i hi => by rw [(hcb i hi).1, dgP_0 n (by omega) i hi]) rfl (fun h => absurd h (Nat.not_lt_zero 0))
    | succ d33 ih33 =>
      intro q hq c1 b1 hcb
      refine g_cast (L' := [some (.ref bt), some (.ref s), some (.int (nI n)), some (.int (nI (n + n % 2))), some (.int (nI (n + n % 2 - 1 - 2 * q)))]) ?_ rfl (by rw [show nI (n + n % 2 - 2 * q) - 1 = nI (n + n % 2 - 1 - 2 * q) from ((nI_m1 _ (by omega)).trans (congrArg nI (by omega)))]) rfl
      refine g_iload X dX1_seek_33 rfl ?_
      refine g_if_le X 53 dX1_seek_35 (by decide) (fun c35_33 => absurd c35_33 (fle (a := n + n % 2 - 1 - 2 * q) (b := 0) (by omega) (by omega) (by omega))) (fun c35_33 => ?_)
      refine g_aload_n X dX1_seek_38 rfl ?_
      refine g_get X uwX1 0 rfl rfl 0 (by decide) kl_X1_12 rfl rfl gwX1 dX1_seek_39 ?_
      refine g_iload X dX1_seek_42 rfl ?_
      refine g_callVv X (c_X2_addBound V co coc cob c1 b1 q (n + n % 2 - 1 - 2 * q) (by omega)) mo_X2_addBound kl_X1_45 [1, 2, 3] [0, 1, 2, 3, 0, 0, 0, 0, 0, 0] rfl (by decide +kernel) rfl rfl (fun _ => Nat.le_of_ble_eq_true rfl) 1 2 rfl rfl (As := [.int (nI (n + n % 2 - 1 - 2 * q))]) (st := []) (cs' := (0, 0)) rfl rfl rfl rfl dX1_seek_44 (fun u_34 hp_35 ws_37 hw_36 => ?_)
      have hw_36x : ws_37 = [(bt, .inr (1, [.ref co, .ref ma, .ref lo])), (co, .inr (2, [.ref coc, .ref cob, .int (nI (q + 1))])), (coc, .inl (V.2.2.1, 7, .inl (nIf (updN c1 q 0)))), (cob, .inl (V.2.2.1, 7, .inl (nIf (updN b1 q (n + n % 2 - 1 - 2 * q))))), (ma, .inl (V.2.2.1, 7, .inl mf)), (lo, .inr (5, [.ref lor, .int (-4)])), (lor, .inl (V.2.2.1, 7, .inl lf)), (s, .inr (8, [.ref h, .ref sw, .ref sg, .int day])), (sw, .inl (V.2.2.1, 7, .inl w)), (h, .inr (4, [.ref hk, .ref hfw, .ref hfg, .ref hwb, .ref hld, .ref hte, .ref hpu, .int (nI n), .int hwa, .int (nI m), .ref hnu, .int hto]))] := hw_36.symm
      clear hw_36; subst hw_36x
      refine g_iinc X (v := nI (n + n % 2 - 2 * (q + 1)) - 1) (L' := [some (.ref bt), some (.ref s), some (.int (nI n)), some (.int (nI (n + n % 2))), some (.int (nI (n + n % 2 - 2 * (q + 1)) - 1))]) dX1_seek_47 rfl (nI_dec2' (by omega)) (by decide) rfl rfl ?_
      refine g_goto X 33 dX1_seek_50 (by decide) ?_
      exact ih33 (q + 1) (by omega) (updN c1 q 0) (updN b1 q (n + n % 2 - 1 - 2 * q)) (fun i hi => by rw [updN, updN]; by_cases e : i = q; rw [if_pos e, if_pos e, e]; exact ⟨rfl, rfl⟩; rw [if_neg e, if_neg e]; exact hcb i (by omega))
  exact loop33_11 ((n + n % 2) / 2) 0 (by omega) ch bd (fun i hi => absurd hi (Nat.not_lt_zero i))
