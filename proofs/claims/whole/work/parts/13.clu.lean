set_option maxHeartbeats 4000000 in
set_option maxRecDepth 100000 in
theorem c_X3_seekTwo (V : gV) (cu : Nat) (le : Int32) (c1 : Int32) (c2 : Int32) (s : Nat) (sw : Nat) (sg : Nat) (day : Int32) (w : Nat → Int32) (h : Nat) (hk : Nat) (hfw : Nat) (hfg : Nat) (hwb : Nat) (hld : Nat) (hte : Nat) (hpu : Nat) (hnu : Nat) (n : Nat) (m : Nat) (hwa : Int32) (hto : Int32) (k : Nat → Int32) (x : Int32) (hn : n ≤ 7) (hB : Bd n w) : Kv V yX3_seekTwo cX3_seekTwo 7 ({ frames := 4, cells := 0, slots := 0, locals := 93 }) [.ref cu, .ref s, .int x] [(cu, .inr (3, [.int le, .int c1, .int c2])), (s, .inr (8, [.ref h, .ref sw, .ref sg, .int day])), (sw, .inl (V.2.2.1, 7, .inl w)), (h, .inr (4, [.ref hk, .ref hfw, .ref hfg, .ref hwb, .ref hld, .ref hte, .ref hpu, .int (nI n), .int hwa, .int (nI m), .ref hnu, .int hto])), (hk, .inl (V.2.2.1, 7, .inl k))] (fun u : Int32 × Int32 × Int32 => u.1 = (if (twoF k day n x w (c1, c2)).2 = -4 then -4 else 2) ∧ u.2.1 = (twoF k day n x w (c1, c2)).1 ∧ u.2.2 = (twoF k day n x w (c1, c2)).2) (fun u => [(cu, .inr (3, [.int u.1, .int u.2.1, .int u.2.2])), (s, .inr (8, [.ref h, .ref sw, .ref sg, .int day])), (sw, .inl (V.2.2.1, 7, .inl w)), (h, .inr (4, [.ref hk, .ref hfw, .ref hfg, .ref hwb, .ref hld, .ref hte, .ref hpu, .int (nI n), .int hwa, .int (nI m), .ref hnu, .int hto])), (hk, .inl (V.2.2.1, 7, .inl k))]) := by
  refine Kv.of [some (.ref cu), some (.ref s), some (.int x), none, none, none, none] (by decide) (Nat.le_of_ble_eq_true rfl) rfl rfl ?_
  intro Z X E
  have X : gX V Z RX3 cX3_seekTwo 7 ({ frames := 4, cells := 0, slots := 0, locals := 93 }) := X
  refine g_aload_n X dX3_seekTwo_0 rfl ?_
  refine g_getN X uwX8 1 rfl rfl 0 (by decide) kl_X3_35 rfl rfl gwX8 dX3_seekTwo_1 ?_
  refine g_getN X uwX4 3 rfl rfl 7 (by decide) kl_X3_39 rfl rfl gwX4 dX3_seekTwo_4 ?_
  refine g_istore_n X (L' := [some (.ref cu), some (.ref s), some (.int x), some (.int (nI n)), none, none, none]) dX3_seekTwo_7 (by decide) rfl rfl ?_
  refine g_iconst X (0) dX3_seekTwo_8 (by decide) ?_
  refine g_istore X (L' := [some (.ref cu), some (.ref s), some (.int x), some (.int (nI n)), some (.int 0), none, none]) dX3_seekTwo_9 (by decide) rfl rfl ?_
  have loop11 : ∀ (d11 a : Nat), a + d11 = n → ∀ (f1 : Int32) (s1 : Int32) (h1 : (f1, s1) = it (twoP k day n x w) a (c1, c2)), G V Z 7 (0, 0) [(cu, .inr (3, [.int le, .int f1, .int s1])), (s, .inr (8, [.ref h, .ref sw, .ref sg, .int day])), (sw, .inl (V.2.2.1, 7, .inl w)), (h, .inr (4, [.ref hk, .ref hfw, .ref hfg, .ref hwb, .ref hld, .ref hte, .ref hpu, .int (nI n), .int hwa, .int (nI m), .ref hnu, .int hto])), (hk, .inl (V.2.2.1, 7, .inl k))] 11 [some (.ref cu), some (.ref s), some (.int x), some (.int (nI n)), some (.int (nI a)), none, none] [] := by
    intro d11
    induction d11 with
    | zero =>
      intro a ha f1 s1 h1
      refine g_iload X dX3_seekTwo_11 rfl ?_
      refine g_iload_n X dX3_seekTwo_13 rfl ?_
      refine g_icmp_ge X 98 dX3_seekTwo_14 (by decide) (fun c14_1 => ?_) (fun c14_1 => absurd (tge (a := a) (b := n) (by omega) (by omega) (by omega)) c14_1)
      refine g_aload_n X dX3_seekTwo_98 rfl ?_
      refine g_aload_n X dX3_seekTwo_99 rfl ?_
      refine g_get X uwX3 0 rfl rfl 2 (by decide) kl_X3_18 rfl rfl gwX3 dX3_seekTwo_100 ?_
      refine g_bipush X (-4) dX3_seekTwo_103 (by decide) ?_
      refine g_icmp_ne X 113 dX3_seekTwo_105 (by decide) (fun c105_2 => ?_) (fun c105_2 => ?_)
      · refine g_iconst X (2) dX3_seekTwo_113 (by decide) ?_
        refine g_put X uwX3 tyX3 tyX3_ok nmX3 0 rfl rfl 0 (by decide) kl_X3_9 rfl rfl rfl rfl (Nat.le_of_ble_eq_true rfl) gwX3 (ws' := [(cu, .inr (3, [.int 2, .int f1, .int s1])), (s, .inr (8, [.ref h, .ref sw, .ref sg, .int day])), (sw, .inl (V.2.2.1, 7, .inl w)), (h, .inr (4, [.ref hk, .ref hfw, .ref hfg, .ref hwb, .ref hld, .ref hte, .ref hpu, .int (nI n), .int hwa, .int (nI m), .ref hnu, .int hto])), (hk, .inl (V.2.2.1, 7, .inl k))]) rfl dX3_seekTwo_114 ?_
        exact g_vret X E dX3_seekTwo_117 ⟨2, f1, s1⟩ ⟨(by have e : a = n := (by omega); subst e; rw [twoF, ← h1]; simp [c105_2]), (by have e : a = n := (by omega); subst e; rw [twoF, ← h1]), (by have e : a = n := (by omega); subst e; rw [twoF, ← h1])⟩ rfl
      · refine g_bipush X (-4) dX3_seekTwo_108 (by decide) ?_
        refine g_goto X 114 dX3_seekTwo_110 (by decide) ?_
        refine g_put X uwX3 tyX3 tyX3_ok nmX3 0 rfl rfl 0 (by decide) kl_X3_9 rfl rfl rfl rfl (Nat.le_of_ble_eq_true rfl) gwX3 (ws' := [(cu, .inr (3, [.int (-4), .int f1, .int s1])), (s, .inr (8, [.ref h, .ref sw, .ref sg, .int day])), (sw, .inl (V.2.2.1, 7, .inl w)), (h, .inr (4, [.ref hk, .ref hfw, .ref hfg, .ref hwb, .ref hld, .ref hte, .ref hpu, .int (nI n), .int hwa, .int (nI m), .ref hnu, .int hto])), (hk, .inl (V.2.2.1, 7, .inl k))]) rfl dX3_seekTwo_114 ?_
        exact g_vret X E dX3_seekTwo_117 ⟨-4, f1, s1⟩ ⟨(by have e : a = n := (by omega); subst e; rw [twoF, ← h1]; simp [c105_2]), (by have e : a = n := (by omega); subst e; rw [twoF, ← h1]), (by have e : a = n := (by omega); subst e; rw [twoF, ← h1])⟩ rfl
    | succ d11 ih11 =>
      intro a ha f1 s1 h1
      refine g_iload X dX3_seekTwo_11 rfl ?_
      refine g_iload_n X dX3_seekTwo_13 rfl ?_
      refine g_icmp_ge X 98 dX3_seekTwo_14 (by decide) (fun c14_3 => absurd c14_3 (fge (a := a) (b := n) (by omega) (by omega) (by omega))) (fun c14_3 => ?_)
      refine g_iconst X (0) dX3_seekTwo_17 (by decide) ?_
      refine g_istore X (L' := [some (.ref cu), some (.ref s), some (.int x), some (.int (nI n)), some (.int (nI a)), some (.int 0), none]) dX3_seekTwo_18 (by decide) rfl rfl ?_
      have loop20_4 : ∀ (d20 b : Nat), b + d20 = n → ∀ (f2 : Int32) (s2 : Int32) (h2 : (f2, s2) = it (twoQ k day n x w a) b (f1, s1)), G V Z 7 (0, 0) [(cu, .inr (3, [.int le, .int f2, .int s2])), (s, .inr (8, [.ref h, .ref sw, .ref sg, .int day])), (sw, .inl (V.2.2.1, 7, .inl w)), (h, .inr (4, [.ref hk, .ref hfw, .ref hfg, .ref hwb, .ref hld, .ref hte, .ref hpu, .int (nI n), .int hwa, .int (nI m), .ref hnu, .int hto])), (hk, .inl (V.2.2.1, 7, .inl k))] 20 [some (.ref cu), some (.ref s), some (.int x), some (.int (nI n)), some (.int (nI a)), some (.int (nI b)), none] [] := by
        intro d20
        induction d20 with
        | zero =>
          intro b hb f2 s2 h2
          refine g_iload X dX3_seekTwo_20 rfl ?_
          refine g_iload_n X dX3_seekTwo_22 rfl ?_
          refine g_icmp_ge X 92 dX3_seekTwo_23 (by decide) (fun c23_5 => ?_) (fun c23_5 => absurd (tge (a := b) (b := n) (by omega) (by omega) (by omega)) c23_5)
          refine g_iinc X (v := nI (a + 1)) (L' := [some (.ref cu), some (.ref s), some (.int x), some (.int (nI n)), some (.int (nI (a + 1))), some (.int (nI b)), none]) dX3_seekTwo_92 rfl (nI_addk (by decide)) (by decide) rfl rfl ?_
          refine g_goto X 11 dX3_seekTwo_95 (by decide) ?_
          refine g_sub (L' := [some (.ref cu), some (.ref s), some (.int x), some (.int (nI n)), some (.int (nI (a + 1))), none, none]) ⟨rfl, ⟨rfl, ⟨rfl, ⟨rfl, ⟨rfl, trivial⟩⟩⟩⟩⟩ ?_
          exact ih11 (a + 1) (by omega) f2 s2 (by have e : b = n := (by omega); subst e; rw [it_s, ← h1, twoP, ← h2])
        | succ d20 ih20 =>
          intro b hb f2 s2 h2
          refine g_iload X dX3_seekTwo_20 rfl ?_
          refine g_iload_n X dX3_seekTwo_22 rfl ?_
          refine g_icmp_ge X 92 dX3_seekTwo_23 (by decide) (fun c23_6 => absurd c23_6 (fge (a := b) (b := n) (by omega) (by omega) (by omega))) (fun c23_6 => ?_)
          refine g_iload X dX3_seekTwo_26 rfl ?_
          refine g_iload X dX3_seekTwo_28 rfl ?_
          refine g_icmp_eq X 86 dX3_seekTwo_30 (by decide) (fun c30_7 => ?_) (fun c30_7 => ?_)
          · have c30_7n := ieq' (a := a) (b := b) c30_7 (by omega) (by omega)
            refine g_iinc X (v := nI (b + 1)) (L' := [some (.ref cu), some (.ref s), some (.int x), some (.int (nI n)), some (.int (nI a)), some (.int (nI (b + 1))), none]) dX3_seekTwo_86 rfl (nI_addk (by decide)) (by decide) rfl rfl ?_
            refine g_goto X 20 dX3_seekTwo_89 (by decide) ?_
            exact ih20 (b + 1) (by omega) f2 s2 (by rw [it_s, ← h2, twoQ]; simp [c30_7, c30_7n])
          · have c30_7n := ine' (a := a) (b := b) c30_7 (by omega) (by omega)
            refine g_aload_n X dX3_seekTwo_33 rfl ?_
            refine g_get X uwX3 0 rfl rfl 2 (by decide) kl_X3_18 rfl rfl gwX3 dX3_seekTwo_34 ?_
            refine g_bipush X (-4) dX3_seekTwo_37 (by decide) ?_
            refine g_icmp_ne X 86 dX3_seekTwo_39 (by decide) (fun c39_8 => ?_) (fun c39_8 => ?_)
            · refine g_iinc X (v := nI (b + 1)) (L' := [some (.ref cu), some (.ref s), some (.int x), some (.int (nI n)), some (.int (nI a)), some (.int (nI (b + 1))), none]) dX3_seekTwo_86 rfl (nI_addk (by decide)) (by decide) rfl rfl ?_
              refine g_goto X 20 dX3_seekTwo_89 (by decide) ?_
              exact ih20 (b + 1) (by omega) f2 s2 (by rw [it_s, ← h2, twoQ]; simp [c30_7, c30_7n, c39_8])
            · refine g_aload_n X dX3_seekTwo_42 rfl ?_
              refine g_iload X dX3_seekTwo_43 rfl ?_
              refine g_callVi X (c_X8_wrongOf V s sw sg day w h b (by omega)) mo_X8_wrongOf kl_X3_44 [1, 2] [0, 1, 2, 0, 0] rfl (by decide +kernel) rfl rfl (fun _ => Nat.le_of_ble_eq_true rfl) 1 8 rfl rfl (As := [.int (nI b)]) (st := []) (cs' := (0, 0)) rfl rfl rfl rfl dX3_seekTwo_45 (fun r_13 u_9 hp_10 ws_12 hw_11 => ?_)
              obtain rfl : r_13 = w b := hp_10
              have hw_11x : ws_12 = [(cu, .inr (3, [.int le, .int f2, .int s2])), (s, .inr (8, [.ref h, .ref sw, .ref sg, .int day])), (sw, .inl (V.2.2.1, 7, .inl w)), (h, .inr (4, [.ref hk, .ref hfw, .ref hfg, .ref hwb, .ref hld, .ref hte, .ref hpu, .int (nI n), .int hwa, .int (nI m), .ref hnu, .int hto])), (hk, .inl (V.2.2.1, 7, .inl k))] := hw_11.symm
              clear hw_11; subst hw_11x
              refine g_istore X (L' := [some (.ref cu), some (.ref s), some (.int x), some (.int (nI n)), some (.int (nI a)), some (.int (nI b)), some (.int (w b))]) dX3_seekTwo_48 (by decide) rfl rfl ?_
              refine g_aload_n X dX3_seekTwo_50 rfl ?_
              refine g_iload X dX3_seekTwo_51 rfl ?_
              refine g_iload X dX3_seekTwo_53 rfl ?_
              refine g_callVv X (c_X8_learn V s sw sg day w h hk hfw hfg hwb hld hte hpu hnu n m hwa hto k a b (by omega) (by omega)) mo_X8_learn kl_X3_48 [1, 2, 3, 4] [0, 1, 2, 3, 4] rfl (by decide +kernel) rfl rfl (fun _ => Nat.le_of_ble_eq_true rfl) 1 8 rfl rfl (As := [.int (nI a), .int (nI b)]) (st := []) (cs' := (0, 0)) rfl rfl rfl rfl dX3_seekTwo_55 (fun nw_14 hp_15 ws_17 hw_16 => ?_)
              obtain rfl : nw_14 = learnF k day a b w := hp_15
              have hw_16x : ws_17 = [(cu, .inr (3, [.int le, .int f2, .int s2])), (s, .inr (8, [.ref h, .ref sw, .ref sg, .int day])), (sw, .inl (V.2.2.1, 7, .inl (learnF k day a b w))), (h, .inr (4, [.ref hk, .ref hfw, .ref hfg, .ref hwb, .ref hld, .ref hte, .ref hpu, .int (nI n), .int hwa, .int (nI m), .ref hnu, .int hto])), (hk, .inl (V.2.2.1, 7, .inl k))] := hw_16.symm
              clear hw_16; subst hw_16x
              refine g_aload_n X dX3_seekTwo_58 rfl ?_
              refine g_aload_n X dX3_seekTwo_59 rfl ?_
              refine g_iload_n X dX3_seekTwo_60 rfl ?_
              refine g_callSi X (c_X3_oneLesson V s sw sg day (learnF k day a b w) h hk hfw hfg hwb hld hte hpu hnu n m hwa hto k x (by omega) (Bd_learn hB)) mo_X3_oneLesson kl_X3_27 [1, 2, 3, 4] [0, 1, 2, 3, 4] rfl (by decide +kernel) rfl rfl (fun _ => Nat.le_of_ble_eq_true rfl) (As := [.ref s, .int x]) (st := [.ref cu]) (cs' := (0, 0)) rfl rfl rfl dX3_seekTwo_61 (fun r_23 u_19 hp_20 ws_22 hw_21 => ?_)
              obtain rfl : r_23 = oneF k day n x (learnF k day a b w) := hp_20
              have hw_21x : ws_22 = [(cu, .inr (3, [.int le, .int f2, .int s2])), (s, .inr (8, [.ref h, .ref sw, .ref sg, .int day])), (sw, .inl (V.2.2.1, 7, .inl (learnF k day a b w))), (h, .inr (4, [.ref hk, .ref hfw, .ref hfg, .ref hwb, .ref hld, .ref hte, .ref hpu, .int (nI n), .int hwa, .int (nI m), .ref hnu, .int hto])), (hk, .inl (V.2.2.1, 7, .inl k))] := hw_21.symm
              clear hw_21; subst hw_21x
              refine g_put X uwX3 tyX3 tyX3_ok nmX3 0 rfl rfl 2 (by decide) kl_X3_18 rfl rfl rfl rfl (Nat.le_of_ble_eq_true rfl) gwX3 (ws' := [(cu, .inr (3, [.int le, .int f2, .int (oneF k day n x (learnF k day a b w))])), (s, .inr (8, [.ref h, .ref sw, .ref sg, .int day])), (sw, .inl (V.2.2.1, 7, .inl (learnF k day a b w))), (h, .inr (4, [.ref hk, .ref hfw, .ref hfg, .ref hwb, .ref hld, .ref hte, .ref hpu, .int (nI n), .int hwa, .int (nI m), .ref hnu, .int hto])), (hk, .inl (V.2.2.1, 7, .inl k))]) rfl dX3_seekTwo_64 ?_
              refine g_aload_n X dX3_seekTwo_67 rfl ?_
              refine g_iload X dX3_seekTwo_68 rfl ?_
              refine g_iload X dX3_seekTwo_70 rfl ?_
              refine g_callVv X (c_X8_makeWrong V s sw sg day (learnF k day a b w) h b (w b) (by omega)) mo_X8_makeWrong kl_X3_52 [1, 2] [0, 1, 2, 0, 0] rfl (by decide +kernel) rfl rfl (fun _ => Nat.le_of_ble_eq_true rfl) 1 8 rfl rfl (As := [.int (nI b), .int (w b)]) (st := []) (cs' := (0, 0)) rfl rfl rfl rfl dX3_seekTwo_72 (fun nw_24 hp_25 ws_27 hw_26 => ?_)
              obtain rfl : nw_24 = upd (learnF k day a b w) b (clampF (w b)) := hp_25
              have hw_26x : ws_27 = [(cu, .inr (3, [.int le, .int f2, .int (oneF k day n x (learnF k day a b w))])), (s, .inr (8, [.ref h, .ref sw, .ref sg, .int day])), (sw, .inl (V.2.2.1, 7, .inl (upd (learnF k day a b w) b (clampF (w b))))), (h, .inr (4, [.ref hk, .ref hfw, .ref hfg, .ref hwb, .ref hld, .ref hte, .ref hpu, .int (nI n), .int hwa, .int (nI m), .ref hnu, .int hto])), (hk, .inl (V.2.2.1, 7, .inl k))] := hw_26.symm
              clear hw_26; subst hw_26x
              refine g_arr 2 w rfl (back1 (hB b (by omega))) (ws' := [(cu, .inr (3, [.int le, .int f2, .int (oneF k day n x (learnF k day a b w))])), (s, .inr (8, [.ref h, .ref sw, .ref sg, .int day])), (sw, .inl (V.2.2.1, 7, .inl w)), (h, .inr (4, [.ref hk, .ref hfw, .ref hfg, .ref hwb, .ref hld, .ref hte, .ref hpu, .int (nI n), .int hwa, .int (nI m), .ref hnu, .int hto])), (hk, .inl (V.2.2.1, 7, .inl k))]) rfl ?_
              refine g_aload_n X dX3_seekTwo_75 rfl ?_
              refine g_iload X dX3_seekTwo_76 rfl ?_
              refine g_iload X dX3_seekTwo_78 rfl ?_
              refine g_callNi X (c_X10_lessonNumber V a b) mo_X10_lessonNumber kl_X3_55 [] [0, 0, 0, 0, 0] rfl (by decide +kernel) rfl rfl (fun _ => Nat.le_of_ble_eq_true rfl) (As := [.int (nI a), .int (nI b)]) (st := [.ref cu]) (cs' := (0, 0)) rfl rfl rfl dX3_seekTwo_80 (fun r_33 u_29 hp_30 ws_32 hw_31 => ?_)
              obtain rfl : r_33 = nI (10 * a + b) := hp_30
              have hw_31x : ws_32 = [(cu, .inr (3, [.int le, .int f2, .int (oneF k day n x (learnF k day a b w))])), (s, .inr (8, [.ref h, .ref sw, .ref sg, .int day])), (sw, .inl (V.2.2.1, 7, .inl w)), (h, .inr (4, [.ref hk, .ref hfw, .ref hfg, .ref hwb, .ref hld, .ref hte, .ref hpu, .int (nI n), .int hwa, .int (nI m), .ref hnu, .int hto])), (hk, .inl (V.2.2.1, 7, .inl k))] := hw_31.symm
              clear hw_31; subst hw_31x
              refine g_put X uwX3 tyX3 tyX3_ok nmX3 0 rfl rfl 1 (by decide) kl_X3_15 rfl rfl rfl rfl (Nat.le_of_ble_eq_true rfl) gwX3 (ws' := [(cu, .inr (3, [.int le, .int (nI (10 * a + b)), .int (oneF k day n x (learnF k day a b w))])), (s, .inr (8, [.ref h, .ref sw, .ref sg, .int day])), (sw, .inl (V.2.2.1, 7, .inl w)), (h, .inr (4, [.ref hk, .ref hfw, .ref hfg, .ref hwb, .ref hld, .ref hte, .ref hpu, .int (nI n), .int hwa, .int (nI m), .ref hnu, .int hto])), (hk, .inl (V.2.2.1, 7, .inl k))]) rfl dX3_seekTwo_83 ?_
              refine g_iinc X (v := nI (b + 1)) (L' := [some (.ref cu), some (.ref s), some (.int x), some (.int (nI n)), some (.int (nI a)), some (.int (nI (b + 1))), some (.int (w b))]) dX3_seekTwo_86 rfl (nI_addk (by decide)) (by decide) rfl rfl ?_
              refine g_goto X 20 dX3_seekTwo_89 (by decide) ?_
              refine g_sub (L' := [some (.ref cu), some (.ref s), some (.int x), some (.int (nI n)), some (.int (nI a)), some (.int (nI (b + 1))), none]) ⟨rfl, ⟨rfl, ⟨rfl, ⟨rfl, ⟨rfl, ⟨rfl, trivial⟩⟩⟩⟩⟩⟩ ?_
              exact ih20 (b + 1) (by omega) (nI (10 * a + b)) (oneF k day n x (learnF k day a b w)) (by rw [it_s, ← h2, twoQ]; simp [c30_7, c30_7n, c39_8])
      exact loop20_4 n 0 (by omega) f1 s1 rfl
  exact loop11 n 0 (by omega) c1 c2 rfl

set_option maxHeartbeats 4000000 in
set_option maxRecDepth 100000 in
theorem c_X3_seek (V : gV) (cu : Nat) (le : Int32) (c1 : Int32) (c2 : Int32) (s : Nat) (sw : Nat) (sg : Nat) (day : Int32) (w : Nat → Int32) (h : Nat) (hk : Nat) (hfw : Nat) (hfg : Nat) (hwb : Nat) (hld : Nat) (hte : Nat) (hpu : Nat) (hnu : Nat) (n : Nat) (m : Nat) (hwa : Int32) (hto : Int32) (k : Nat → Int32) (x : Int32) (hn : n ≤ 7) (hB : Bd n w) : Kv V yX3_seek cX3_seek 3 ({ frames := 5, cells := 0, slots := 0, locals := 119 }) [.ref cu, .ref s, .int x] [(cu, .inr (3, [.int le, .int c1, .int c2])), (s, .inr (8, [.ref h, .ref sw, .ref sg, .int day])), (sw, .inl (V.2.2.1, 7, .inl w)), (h, .inr (4, [.ref hk, .ref hfw, .ref hfg, .ref hwb, .ref hld, .ref hte, .ref hpu, .int (nI n), .int hwa, .int (nI m), .ref hnu, .int hto])), (hk, .inl (V.2.2.1, 7, .inl k))] (fun u : Int32 × Int32 × Int32 => u.1 = (cureF k day n x w).1 ∧ u.2.1 = (cureF k day n x w).2.1 ∧ u.2.2 = (cureF k day n x w).2.2) (fun u => [(cu, .inr (3, [.int u.1, .int u.2.1, .int u.2.2])), (s, .inr (8, [.ref h, .ref sw, .ref sg, .int day])), (sw, .inl (V.2.2.1, 7, .inl w)), (h, .inr (4, [.ref hk, .ref hfw, .ref hfg, .ref hwb, .ref hld, .ref hte, .ref hpu, .int (nI n), .int hwa, .int (nI m), .ref hnu, .int hto])), (hk, .inl (V.2.2.1, 7, .inl k))]) := by
  refine Kv.of [some (.ref cu), some (.ref s), some (.int x)] (by decide) (Nat.le_of_ble_eq_true rfl) rfl rfl ?_
  intro Z X E
  have X : gX V Z RX3 cX3_seek 3 ({ frames := 5, cells := 0, slots := 0, locals := 119 }) := X
  refine g_aload_n X dX3_seek_0 rfl ?_
  refine g_bipush X (-4) dX3_seek_1 (by decide) ?_
  refine g_put X uwX3 tyX3 tyX3_ok nmX3 0 rfl rfl 0 (by decide) kl_X3_9 rfl rfl rfl rfl (Nat.le_of_ble_eq_true rfl) gwX3 (ws' := [(cu, .inr (3, [.int (-4), .int c1, .int c2])), (s, .inr (8, [.ref h, .ref sw, .ref sg, .int day])), (sw, .inl (V.2.2.1, 7, .inl w)), (h, .inr (4, [.ref hk, .ref hfw, .ref hfg, .ref hwb, .ref hld, .ref hte, .ref hpu, .int (nI n), .int hwa, .int (nI m), .ref hnu, .int hto])), (hk, .inl (V.2.2.1, 7, .inl k))]) rfl dX3_seek_3 ?_
  refine g_aload_n X dX3_seek_6 rfl ?_
  refine g_bipush X (-4) dX3_seek_7 (by decide) ?_
  refine g_put X uwX3 tyX3 tyX3_ok nmX3 0 rfl rfl 1 (by decide) kl_X3_15 rfl rfl rfl rfl (Nat.le_of_ble_eq_true rfl) gwX3 (ws' := [(cu, .inr (3, [.int (-4), .int (-4), .int c2])), (s, .inr (8, [.ref h, .ref sw, .ref sg, .int day])), (sw, .inl (V.2.2.1, 7, .inl w)), (h, .inr (4, [.ref hk, .ref hfw, .ref hfg, .ref hwb, .ref hld, .ref hte, .ref hpu, .int (nI n), .int hwa, .int (nI m), .ref hnu, .int hto])), (hk, .inl (V.2.2.1, 7, .inl k))]) rfl dX3_seek_9 ?_
  refine g_aload_n X dX3_seek_12 rfl ?_
  refine g_bipush X (-4) dX3_seek_13 (by decide) ?_
  refine g_put X uwX3 tyX3 tyX3_ok nmX3 0 rfl rfl 2 (by decide) kl_X3_18 rfl rfl rfl rfl (Nat.le_of_ble_eq_true rfl) gwX3 (ws' := [(cu, .inr (3, [.int (-4), .int (-4), .int (-4)])), (s, .inr (8, [.ref h, .ref sw, .ref sg, .int day])), (sw, .inl (V.2.2.1, 7, .inl w)), (h, .inr (4, [.ref hk, .ref hfw, .ref hfg, .ref hwb, .ref hld, .ref hte, .ref hpu, .int (nI n), .int hwa, .int (nI m), .ref hnu, .int hto])), (hk, .inl (V.2.2.1, 7, .inl k))]) rfl dX3_seek_15 ?_
  refine g_aload_n X dX3_seek_18 rfl ?_
  refine g_iload_n X dX3_seek_19 rfl ?_
  refine g_callVi X (c_X8_isWithin V s sw sg day w h hk hfw hfg hwb hld hte hpu hnu n m hwa hto x (by omega)) mo_X8_isWithin kl_X3_21 [1, 2, 3] [0, 1, 2, 3, 0] rfl (by decide +kernel) rfl rfl (fun _ => Nat.le_of_ble_eq_true rfl) 1 8 rfl rfl (As := [.int x]) (st := []) (cs' := (0, 0)) rfl rfl rfl rfl dX3_seek_20 (fun r_5 u_1 hp_2 ws_4 hw_3 => ?_)
  obtain rfl : r_5 = wiF n x w := hp_2
  have hw_3x : ws_4 = [(cu, .inr (3, [.int (-4), .int (-4), .int (-4)])), (s, .inr (8, [.ref h, .ref sw, .ref sg, .int day])), (sw, .inl (V.2.2.1, 7, .inl w)), (h, .inr (4, [.ref hk, .ref hfw, .ref hfg, .ref hwb, .ref hld, .ref hte, .ref hpu, .int (nI n), .int hwa, .int (nI m), .ref hnu, .int hto])), (hk, .inl (V.2.2.1, 7, .inl k))] := hw_3.symm
  clear hw_3; subst hw_3x
  refine g_if_eq X 32 dX3_seek_23 (by decide) (fun c23_6 => ?_) (fun c23_6 => ?_)
  · refine g_aload_n X dX3_seek_32 rfl ?_
    refine g_aload_n X dX3_seek_33 rfl ?_
    refine g_iload_n X dX3_seek_34 rfl ?_
    refine g_callSi X (c_X3_oneLesson V s sw sg day w h hk hfw hfg hwb hld hte hpu hnu n m hwa hto k x (by omega) (by omega)) mo_X3_oneLesson kl_X3_27 [1, 2, 3, 4] [0, 1, 2, 3, 4] rfl (by decide +kernel) rfl rfl (fun _ => Nat.le_of_ble_eq_true rfl) (As := [.ref s, .int x]) (st := [.ref cu]) (cs' := (0, 0)) rfl rfl rfl dX3_seek_35 (fun r_11 u_7 hp_8 ws_10 hw_9 => ?_)
    obtain rfl : r_11 = oneF k day n x w := hp_8
    have hw_9x : ws_10 = [(cu, .inr (3, [.int (-4), .int (-4), .int (-4)])), (s, .inr (8, [.ref h, .ref sw, .ref sg, .int day])), (sw, .inl (V.2.2.1, 7, .inl w)), (h, .inr (4, [.ref hk, .ref hfw, .ref hfg, .ref hwb, .ref hld, .ref hte, .ref hpu, .int (nI n), .int hwa, .int (nI m), .ref hnu, .int hto])), (hk, .inl (V.2.2.1, 7, .inl k))] := hw_9.symm
    clear hw_9; subst hw_9x
    refine g_put X uwX3 tyX3 tyX3_ok nmX3 0 rfl rfl 1 (by decide) kl_X3_15 rfl rfl rfl rfl (Nat.le_of_ble_eq_true rfl) gwX3 (ws' := [(cu, .inr (3, [.int (-4), .int (oneF k day n x w), .int (-4)])), (s, .inr (8, [.ref h, .ref sw, .ref sg, .int day])), (sw, .inl (V.2.2.1, 7, .inl w)), (h, .inr (4, [.ref hk, .ref hfw, .ref hfg, .ref hwb, .ref hld, .ref hte, .ref hpu, .int (nI n), .int hwa, .int (nI m), .ref hnu, .int hto])), (hk, .inl (V.2.2.1, 7, .inl k))]) rfl dX3_seek_38 ?_
    refine g_aload_n X dX3_seek_41 rfl ?_
    refine g_get X uwX3 0 rfl rfl 1 (by decide) kl_X3_15 rfl rfl gwX3 dX3_seek_42 ?_
    refine g_bipush X (-4) dX3_seek_45 (by decide) ?_
    refine g_icmp_eq X 56 dX3_seek_47 (by decide) (fun c47_12 => ?_) (fun c47_12 => ?_)
    · refine g_aload_n X dX3_seek_56 rfl ?_
      refine g_aload_n X dX3_seek_57 rfl ?_
      refine g_iload_n X dX3_seek_58 rfl ?_
      refine g_callVv X (c_X3_seekTwo V cu (-4) (oneF k day n x w) (-4) s sw sg day w h hk hfw hfg hwb hld hte hpu hnu n m hwa hto k x (by omega) (by omega)) mo_X3_seekTwo kl_X3_31 [0, 1, 2, 3, 4] [1, 2, 3, 4, 5] rfl (by decide +kernel) rfl rfl (fun _ => Nat.le_of_ble_eq_true rfl) 0 3 rfl rfl (As := [.ref s, .int x]) (st := []) (cs' := (0, 0)) rfl rfl rfl rfl dX3_seek_59 (fun u_13 hp_14 ws_16 hw_15 => ?_)
      obtain ⟨nl_18, n1_19, n2_20⟩ := u_13
      obtain ⟨rfl, rfl, rfl⟩ : nl_18 = (if (twoF k day n x w ((oneF k day n x w), (-4))).2 = -4 then -4 else 2) ∧ n1_19 = (twoF k day n x w ((oneF k day n x w), (-4))).1 ∧ n2_20 = (twoF k day n x w ((oneF k day n x w), (-4))).2 := hp_14
      have hw_15x : ws_16 = [(cu, .inr (3, [.int (if (twoF k day n x w ((oneF k day n x w), (-4))).2 = -4 then -4 else 2), .int ((twoF k day n x w ((oneF k day n x w), (-4))).1), .int ((twoF k day n x w ((oneF k day n x w), (-4))).2)])), (s, .inr (8, [.ref h, .ref sw, .ref sg, .int day])), (sw, .inl (V.2.2.1, 7, .inl w)), (h, .inr (4, [.ref hk, .ref hfw, .ref hfg, .ref hwb, .ref hld, .ref hte, .ref hpu, .int (nI n), .int hwa, .int (nI m), .ref hnu, .int hto])), (hk, .inl (V.2.2.1, 7, .inl k))] := hw_15.symm
      clear hw_15; subst hw_15x
      exact g_vret X E dX3_seek_62 ⟨if (twoF k day n x w ((oneF k day n x w), (-4))).2 = -4 then -4 else 2, (twoF k day n x w ((oneF k day n x w), (-4))).1, (twoF k day n x w ((oneF k day n x w), (-4))).2⟩ ⟨(by rw [cureF]; simp [c23_6, c47_12]), (by rw [cureF]; simp [c23_6, c47_12]), (by rw [cureF]; simp [c23_6, c47_12])⟩ rfl
    · refine g_aload_n X dX3_seek_50 rfl ?_
      refine g_iconst X (1) dX3_seek_51 (by decide) ?_
      refine g_put X uwX3 tyX3 tyX3_ok nmX3 0 rfl rfl 0 (by decide) kl_X3_9 rfl rfl rfl rfl (Nat.le_of_ble_eq_true rfl) gwX3 (ws' := [(cu, .inr (3, [.int 1, .int (oneF k day n x w), .int (-4)])), (s, .inr (8, [.ref h, .ref sw, .ref sg, .int day])), (sw, .inl (V.2.2.1, 7, .inl w)), (h, .inr (4, [.ref hk, .ref hfw, .ref hfg, .ref hwb, .ref hld, .ref hte, .ref hpu, .int (nI n), .int hwa, .int (nI m), .ref hnu, .int hto])), (hk, .inl (V.2.2.1, 7, .inl k))]) rfl dX3_seek_52 ?_
      exact g_vret X E dX3_seek_55 ⟨1, oneF k day n x w, -4⟩ ⟨(by rw [cureF]; simp [c23_6, c47_12]), (by rw [cureF]; simp [c23_6, c47_12]), (by rw [cureF]; simp [c23_6, c47_12])⟩ rfl
  · refine g_aload_n X dX3_seek_26 rfl ?_
    refine g_iconst X (0) dX3_seek_27 (by decide) ?_
    refine g_put X uwX3 tyX3 tyX3_ok nmX3 0 rfl rfl 0 (by decide) kl_X3_9 rfl rfl rfl rfl (Nat.le_of_ble_eq_true rfl) gwX3 (ws' := [(cu, .inr (3, [.int 0, .int (-4), .int (-4)])), (s, .inr (8, [.ref h, .ref sw, .ref sg, .int day])), (sw, .inl (V.2.2.1, 7, .inl w)), (h, .inr (4, [.ref hk, .ref hfw, .ref hfg, .ref hwb, .ref hld, .ref hte, .ref hpu, .int (nI n), .int hwa, .int (nI m), .ref hnu, .int hto])), (hk, .inl (V.2.2.1, 7, .inl k))]) rfl dX3_seek_28 ?_
    exact g_vret X E dX3_seek_31 ⟨0, -4, -4⟩ ⟨(by rw [cureF]; simp [c23_6]), (by rw [cureF]; simp [c23_6]), (by rw [cureF]; simp [c23_6])⟩ rfl

set_option maxHeartbeats 4000000 in
set_option maxRecDepth 100000 in
theorem c_X5_clear (V : gV) (lo : Nat) (lor : Nat) (ls : Int32)  : Kv V yX5_clear cX5_clear 1 ({ frames := 0, cells := 0, slots := 0, locals := 0 }) [.ref lo] [(lo, .inr (5, [.ref lor, .int ls]))] (fun u : Unit => True) (fun u => [(lo, .inr (5, [.ref lor, .int (-4)]))]) := by
  refine Kv.of [some (.ref lo)] (by decide) (Nat.le_of_ble_eq_true rfl) rfl rfl ?_
  intro Z X E
  have X : gX V Z RX5 cX5_clear 1 ({ frames := 0, cells := 0, slots := 0, locals := 0 }) := X
  refine g_aload_n X dX5_clear_0 rfl ?_
  refine g_bipush X (-4) dX5_clear_1 (by decide) ?_
  refine g_put X uwX5 tyX5 tyX5_ok nmX5 0 rfl rfl 1 (by decide) kl_X5_15 rfl rfl rfl rfl (Nat.le_of_ble_eq_true rfl) gwX5 (ws' := [(lo, .inr (5, [.ref lor, .int (-4)]))]) rfl dX5_clear_3 ?_
  exact g_vret X E dX5_clear_6 () trivial rfl

set_option maxHeartbeats 4000000 in
set_option maxRecDepth 100000 in
theorem c_X5_offer (V : gV) (lo : Nat) (lor : Nat) (lf : Nat → Int32) (ls : Int32) (q : Nat) (qf : Nat → Int32) (x : Int32)  : Kv V yX5_offer cX5_offer 4 ({ frames := 1, cells := 0, slots := 0, locals := 22 }) [.ref lo, .int x, .ref q] [(lo, .inr (5, [.ref lor, .int ls])), (lor, .inl (V.2.2.1, 7, .inl lf)), (q, .inl (V.2.2.1, 7, .inl qf))] (fun u : (Nat → Int32) × Int32 => u.1 = offR ls x lf qf ∧ u.2 = offR ls x ls x) (fun u => [(lo, .inr (5, [.ref lor, .int u.2])), (lor, .inl (V.2.2.1, 7, .inl u.1)), (q, .inl (V.2.2.1, 7, .inl qf))]) := by
  refine Kv.of [some (.ref lo), some (.int x), some (.ref q), none] (by decide) (Nat.le_of_ble_eq_true rfl) rfl rfl ?_
  intro Z X E
  have X : gX V Z RX5 cX5_offer 4 ({ frames := 1, cells := 0, slots := 0, locals := 22 }) := X
  refine g_aload_n X dX5_offer_0 rfl ?_
  refine g_get X uwX5 0 rfl rfl 1 (by decide) kl_X5_15 rfl rfl gwX5 dX5_offer_1 ?_
  refine g_bipush X (-4) dX5_offer_4 (by decide) ?_
  refine g_icmp_eq X 17 dX5_offer_6 (by decide) (fun c6_1 => ?_) (fun c6_1 => ?_)
  · refine g_aload_n X dX5_offer_17 rfl ?_
    refine g_iload_n X dX5_offer_18 rfl ?_
    refine g_put X uwX5 tyX5 tyX5_ok nmX5 0 rfl rfl 1 (by decide) kl_X5_15 rfl rfl rfl rfl (Nat.le_of_ble_eq_true rfl) gwX5 (ws' := [(lo, .inr (5, [.ref lor, .int x])), (lor, .inl (V.2.2.1, 7, .inl lf)), (q, .inl (V.2.2.1, 7, .inl qf))]) rfl dX5_offer_19 ?_
    refine g_iconst X (0) dX5_offer_22 (by decide) ?_
    refine g_istore_n X (L' := [some (.ref lo), some (.int x), some (.ref q), some (.int 0)]) dX5_offer_23 (by decide) rfl rfl ?_
    have loop24_2 : ∀ (d24 i : Nat), i + d24 = 7 → ∀ (w1 : Nat → Int32) (h1 : ∀ j, j < i → w1 j = qf j), G V Z 4 (0, 0) [(lo, .inr (5, [.ref lor, .int x])), (lor, .inl (V.2.2.1, 7, .inl w1)), (q, .inl (V.2.2.1, 7, .inl qf))] 24 [some (.ref lo), some (.int x), some (.ref q), some (.int (nI i))] [] := by
      intro d24
      induction d24 with
      | zero =>
        intro i hi w1 h1
        refine g_iload_n X dX5_offer_24 rfl ?_
        refine g_bipush X (7) dX5_offer_25 (by decide) ?_
        refine g_icmp_ge X 49 dX5_offer_27 (by decide) (fun c27_3 => ?_) (fun c27_3 => absurd (tge (a := i) (b := 7) (by omega) (by omega) (by omega)) c27_3)
        refine g_arr 1 qf rfl (copied h1 (by omega)) (ws' := [(lo, .inr (5, [.ref lor, .int x])), (lor, .inl (V.2.2.1, 7, .inl qf)), (q, .inl (V.2.2.1, 7, .inl qf))]) rfl ?_
        exact g_vret X E dX5_offer_49 ⟨qf, x⟩ ⟨(by rw [offR, betterF]; simp [c6_1]), (by rw [offR, betterF]; simp [c6_1])⟩ rfl
      | succ d24 ih24 =>
        intro i hi w1 h1
        refine g_iload_n X dX5_offer_24 rfl ?_
        refine g_bipush X (7) dX5_offer_25 (by decide) ?_
        refine g_icmp_ge X 49 dX5_offer_27 (by decide) (fun c27_4 => absurd c27_4 (fge (a := i) (b := 7) (by omega) (by omega) (by omega))) (fun c27_4 => ?_)
        refine g_aload_n X dX5_offer_30 rfl ?_
        refine g_get X uwX5 0 rfl rfl 0 (by decide) kl_X5_9 rfl rfl gwX5 dX5_offer_31 ?_
        refine g_iload_n X dX5_offer_34 rfl ?_
        refine g_aload_n X dX5_offer_35 rfl ?_
        refine g_iload_n X dX5_offer_36 rfl ?_
        refine g_callNi X (c_X10_at V q 7 qf i (by omega) (by decide)) mo_X10_at kl_X5_19 [2] [0, 0, 1] rfl (by decide +kernel) rfl rfl (fun _ => Nat.le_of_ble_eq_true rfl) (As := [.ref q, .int (nI i)]) (st := [.int (nI i), .ref lor]) (cs' := (0, 0)) rfl rfl rfl dX5_offer_37 (fun r_9 u_5 hp_6 ws_8 hw_7 => ?_)
        obtain rfl : r_9 = qf i := hp_6
        have hw_7x : ws_8 = [(lo, .inr (5, [.ref lor, .int x])), (lor, .inl (V.2.2.1, 7, .inl w1)), (q, .inl (V.2.2.1, 7, .inl qf))] := hw_7.symm
        clear hw_7; subst hw_7x
        refine g_callNv X (c_X10_put V lor 7 w1 i (qf i) (by omega) (by decide)) mo_X10_put kl_X5_23 [1] [0, 1, 0] rfl (by decide +kernel) rfl rfl (fun _ => Nat.le_of_ble_eq_true rfl) (As := [.ref lor, .int (nI i), .int (qf i)]) (st := []) (cs' := (0, 0)) rfl rfl rfl dX5_offer_40 (fun nf_10 hp_11 ws_13 hw_12 => ?_)
        obtain rfl : nf_10 = upd w1 i (qf i) := hp_11
        have hw_12x : ws_13 = [(lo, .inr (5, [.ref lor, .int x])), (lor, .inl (V.2.2.1, 7, .inl (upd w1 i (qf i)))), (q, .inl (V.2.2.1, 7, .inl qf))] := hw_12.symm
        clear hw_12; subst hw_12x
        refine g_iinc X (v := nI (i + 1)) (L' := [some (.ref lo), some (.int x), some (.ref q), some (.int (nI (i + 1)))]) dX5_offer_43 rfl (nI_addk (by decide)) (by decide) rfl rfl ?_
        refine g_goto X 24 dX5_offer_46 (by decide) ?_
        exact ih24 (i + 1) (by omega) (upd w1 i (qf i)) (upd_pre h1)
    exact loop24_2 7 0 (by omega) lf (fun j hj => absurd hj (Nat.not_lt_zero j))
  · refine g_iload_n X dX5_offer_9 rfl ?_
    refine g_aload_n X dX5_offer_10 rfl ?_
    refine g_get X uwX5 0 rfl rfl 1 (by decide) kl_X5_15 rfl rfl gwX5 dX5_offer_11 ?_
    refine g_icmp_ge X 49 dX5_offer_14 (by decide) (fun c14_15 => ?_) (fun c14_15 => ?_)
    · have c14_15d := Int32.not_lt.mpr c14_15
      exact g_vret X E dX5_offer_49 ⟨lf, ls⟩ ⟨(by rw [offR, betterF]; simp [c6_1, c14_15, c14_15d]), (by rw [offR, betterF]; simp [c6_1, c14_15, c14_15d])⟩ rfl
    · have c14_15d := Int32.not_le.mp c14_15
      refine g_aload_n X dX5_offer_17 rfl ?_
      refine g_iload_n X dX5_offer_18 rfl ?_
      refine g_put X uwX5 tyX5 tyX5_ok nmX5 0 rfl rfl 1 (by decide) kl_X5_15 rfl rfl rfl rfl (Nat.le_of_ble_eq_true rfl) gwX5 (ws' := [(lo, .inr (5, [.ref lor, .int x])), (lor, .inl (V.2.2.1, 7, .inl lf)), (q, .inl (V.2.2.1, 7, .inl qf))]) rfl dX5_offer_19 ?_
      refine g_iconst X (0) dX5_offer_22 (by decide) ?_
      refine g_istore_n X (L' := [some (.ref lo), some (.int x), some (.ref q), some (.int 0)]) dX5_offer_23 (by decide) rfl rfl ?_
      have loop24_16 : ∀ (d24 i : Nat), i + d24 = 7 → ∀ (w1 : Nat → Int32) (h1 : ∀ j, j < i → w1 j = qf j), G V Z 4 (0, 0) [(lo, .inr (5, [.ref lor, .int x])), (lor, .inl (V.2.2.1, 7, .inl w1)), (q, .inl (V.2.2.1, 7, .inl qf))] 24 [some (.ref lo), some (.int x), some (.ref q), some (.int (nI i))] [] := by
        intro d24
        induction d24 with
        | zero =>
          intro i hi w1 h1
          refine g_iload_n X dX5_offer_24 rfl ?_
          refine g_bipush X (7) dX5_offer_25 (by decide) ?_
          refine g_icmp_ge X 49 dX5_offer_27 (by decide) (fun c27_17 => ?_) (fun c27_17 => absurd (tge (a := i) (b := 7) (by omega) (by omega) (by omega)) c27_17)
          refine g_arr 1 qf rfl (copied h1 (by omega)) (ws' := [(lo, .inr (5, [.ref lor, .int x])), (lor, .inl (V.2.2.1, 7, .inl qf)), (q, .inl (V.2.2.1, 7, .inl qf))]) rfl ?_
          exact g_vret X E dX5_offer_49 ⟨qf, x⟩ ⟨(by rw [offR, betterF]; simp [c6_1, c14_15, c14_15d]), (by rw [offR, betterF]; simp [c6_1, c14_15, c14_15d])⟩ rfl
        | succ d24 ih24 =>
          intro i hi w1 h1
          refine g_iload_n X dX5_offer_24 rfl ?_
          refine g_bipush X (7) dX5_offer_25 (by decide) ?_
          refine g_icmp_ge X 49 dX5_offer_27 (by decide) (fun c27_18 => absurd c27_18 (fge (a := i) (b := 7) (by omega) (by omega) (by omega))) (fun c27_18 => ?_)
          refine g_aload_n X dX5_offer_30 rfl ?_
          refine g_get X uwX5 0 rfl rfl 0 (by decide) kl_X5_9 rfl rfl gwX5 dX5_offer_31 ?_
          refine g_iload_n X dX5_offer_34 rfl ?_
          refine g_aload_n X dX5_offer_35 rfl ?_
          refine g_iload_n X dX5_offer_36 rfl ?_
          refine g_callNi X (c_X10_at V q 7 qf i (by omega) (by decide)) mo_X10_at kl_X5_19 [2] [0, 0, 1] rfl (by decide +kernel) rfl rfl (fun _ => Nat.le_of_ble_eq_true rfl) (As := [.ref q, .int (nI i)]) (st := [.int (nI i), .ref lor]) (cs' := (0, 0)) rfl rfl rfl dX5_offer_37 (fun r_23 u_19 hp_20 ws_22 hw_21 => ?_)
          obtain rfl : r_23 = qf i := hp_20
          have hw_21x : ws_22 = [(lo, .inr (5, [.ref lor, .int x])), (lor, .inl (V.2.2.1, 7, .inl w1)), (q, .inl (V.2.2.1, 7, .inl qf))] := hw_21.symm
          clear hw_21; subst hw_21x
          refine g_callNv X (c_X10_put V lor 7 w1 i (qf i) (by omega) (by decide)) mo_X10_put kl_X5_23 [1] [0, 1, 0] rfl (by decide +kernel) rfl rfl (fun _ => Nat.le_of_ble_eq_true rfl) (As := [.ref lor, .int (nI i), .int (qf i)]) (st := []) (cs' := (0, 0)) rfl rfl rfl dX5_offer_40 (fun nf_24 hp_25 ws_27 hw_26 => ?_)
          obtain rfl : nf_24 = upd w1 i (qf i) := hp_25
          have hw_26x : ws_27 = [(lo, .inr (5, [.ref lor, .int x])), (lor, .inl (V.2.2.1, 7, .inl (upd w1 i (qf i)))), (q, .inl (V.2.2.1, 7, .inl qf))] := hw_26.symm
          clear hw_26; subst hw_26x
          refine g_iinc X (v := nI (i + 1)) (L' := [some (.ref lo), some (.int x), some (.ref q), some (.int (nI (i + 1)))]) dX5_offer_43 rfl (nI_addk (by decide)) (by decide) rfl rfl ?_
          refine g_goto X 24 dX5_offer_46 (by decide) ?_
          exact ih24 (i + 1) (by omega) (upd w1 i (qf i)) (upd_pre h1)
      exact loop24_16 7 0 (by omega) lf (fun j hj => absurd hj (Nat.not_lt_zero j))

set_option maxHeartbeats 4000000 in
set_option maxRecDepth 100000 in
theorem c_X2_clear (V : gV) (co : Nat) (coc : Nat) (cob : Nat) (mn : Nat)  : Kv V yX2_clear cX2_clear 1 ({ frames := 0, cells := 0, slots := 0, locals := 0 }) [.ref co] [(co, .inr (2, [.ref coc, .ref cob, .int (nI mn)]))] (fun u : Unit => True) (fun u => [(co, .inr (2, [.ref coc, .ref cob, .int (nI 0)]))]) := by
  refine Kv.of [some (.ref co)] (by decide) (Nat.le_of_ble_eq_true rfl) rfl rfl ?_
  intro Z X E
  have X : gX V Z RX2 cX2_clear 1 ({ frames := 0, cells := 0, slots := 0, locals := 0 }) := X
  refine g_aload_n X dX2_clear_0 rfl ?_
  refine g_iconst X (0) dX2_clear_1 (by decide) ?_
  refine g_put X uwX2 tyX2 tyX2_ok nmX2 0 rfl rfl 2 (by decide) kl_X2_18 rfl rfl rfl rfl (Nat.le_of_ble_eq_true rfl) gwX2 (ws' := [(co, .inr (2, [.ref coc, .ref cob, .int 0]))]) rfl dX2_clear_2 ?_
  exact g_vret X E dX2_clear_5 () trivial rfl

set_option maxHeartbeats 4000000 in
set_option maxRecDepth 100000 in
theorem c_X2_addBound (V : gV) (co : Nat) (coc : Nat) (cob : Nat) (ch : Nat → Nat) (bd : Nat → Nat) (mn : Nat) (v : Nat) (hm : mn < 7) : Kv V yX2_addBound cX2_addBound 2 ({ frames := 1, cells := 0, slots := 0, locals := 22 }) [.ref co, .int (nI v)] [(co, .inr (2, [.ref coc, .ref cob, .int (nI mn)])), (coc, .inl (V.2.2.1, 7, .inl (nIf ch))), (cob, .inl (V.2.2.1, 7, .inl (nIf bd)))] (fun u : Unit => True) (fun u => [(co, .inr (2, [.ref coc, .ref cob, .int (nI (mn + 1))])), (coc, .inl (V.2.2.1, 7, .inl (nIf (updN ch mn 0)))), (cob, .inl (V.2.2.1, 7, .inl (nIf (updN bd mn v))))]) := by
  refine Kv.of [some (.ref co), some (.int (nI v))] (by decide) (Nat.le_of_ble_eq_true rfl) rfl rfl ?_
  intro Z X E
  have X : gX V Z RX2 cX2_addBound 2 ({ frames := 1, cells := 0, slots := 0, locals := 22 }) := X
  refine g_aload_n X dX2_addBound_0 rfl ?_
  refine g_get X uwX2 0 rfl rfl 0 (by decide) kl_X2_9 rfl rfl gwX2 dX2_addBound_1 ?_
  refine g_aload_n X dX2_addBound_4 rfl ?_
  refine g_get X uwX2 0 rfl rfl 2 (by decide) kl_X2_18 rfl rfl gwX2 dX2_addBound_5 ?_
  refine g_iconst X (0) dX2_addBound_8 (by decide) ?_
  refine g_callNv X (c_X10_put V coc 7 (nIf ch) mn 0 (by omega) (by decide)) mo_X10_put kl_X2_22 [1] [0, 1, 0] rfl (by decide +kernel) rfl rfl (fun _ => Nat.le_of_ble_eq_true rfl) (As := [.ref coc, .int (nI mn), .int 0]) (st := []) (cs' := (0, 0)) rfl rfl rfl dX2_addBound_9 (fun nf_1 hp_2 ws_4 hw_3 => ?_)
  obtain rfl : nf_1 = upd (nIf ch) mn 0 := hp_2
  have hw_3x : ws_4 = [(co, .inr (2, [.ref coc, .ref cob, .int (nI mn)])), (coc, .inl (V.2.2.1, 7, .inl (upd (nIf ch) mn 0))), (cob, .inl (V.2.2.1, 7, .inl (nIf bd)))] := hw_3.symm
  clear hw_3; subst hw_3x
  refine g_aload_n X dX2_addBound_12 rfl ?_
  refine g_get X uwX2 0 rfl rfl 1 (by decide) kl_X2_15 rfl rfl gwX2 dX2_addBound_13 ?_
  refine g_aload_n X dX2_addBound_16 rfl ?_
  refine g_get X uwX2 0 rfl rfl 2 (by decide) kl_X2_18 rfl rfl gwX2 dX2_addBound_17 ?_
  refine g_iload_n X dX2_addBound_20 rfl ?_
  refine g_callNv X (c_X10_put V cob 7 (nIf bd) mn (nI v) (by omega) (by decide)) mo_X10_put kl_X2_22 [2] [0, 0, 1] rfl (by decide +kernel) rfl rfl (fun _ => Nat.le_of_ble_eq_true rfl) (As := [.ref cob, .int (nI mn), .int (nI v)]) (st := []) (cs' := (0, 0)) rfl rfl rfl dX2_addBound_21 (fun nf_6 hp_7 ws_9 hw_8 => ?_)
  obtain rfl : nf_6 = upd (nIf bd) mn (nI v) := hp_7
  have hw_8x : ws_9 = [(co, .inr (2, [.ref coc, .ref cob, .int (nI mn)])), (coc, .inl (V.2.2.1, 7, .inl (upd (nIf ch) mn 0))), (cob, .inl (V.2.2.1, 7, .inl (upd (nIf bd) mn (nI v))))] := hw_8.symm
  clear hw_8; subst hw_8x
  refine g_aload_n X dX2_addBound_24 rfl ?_
  refine g_dup X dX2_addBound_25 rfl ?_
  refine g_get X uwX2 0 rfl rfl 2 (by decide) kl_X2_18 rfl rfl gwX2 dX2_addBound_26 ?_
  refine g_iconst X (1) dX2_addBound_29 (by decide) ?_
  refine g_iadd X dX2_addBound_30 ?_
  refine g_toe (x' := nI (mn + 1)) (nI_add' rfl rfl) ?_
  refine g_put X uwX2 tyX2 tyX2_ok nmX2 0 rfl rfl 2 (by decide) kl_X2_18 rfl rfl rfl rfl (Nat.le_of_ble_eq_true rfl) gwX2 (ws' := [(co, .inr (2, [.ref coc, .ref cob, .int (nI (mn + 1))])), (coc, .inl (V.2.2.1, 7, .inl (upd (nIf ch) mn 0))), (cob, .inl (V.2.2.1, 7, .inl (upd (nIf bd) mn (nI v))))]) rfl dX2_addBound_31 ?_
  refine g_arr 1 (nIf (updN ch mn 0)) rfl (fun j _ => updN_eq ch mn 0 j) (ws' := [(co, .inr (2, [.ref coc, .ref cob, .int (nI (mn + 1))])), (coc, .inl (V.2.2.1, 7, .inl (nIf (updN ch mn 0)))), (cob, .inl (V.2.2.1, 7, .inl (upd (nIf bd) mn (nI v))))]) rfl ?_
  refine g_arr 2 (nIf (updN bd mn v)) rfl (fun j _ => updN_eq bd mn v j) (ws' := [(co, .inr (2, [.ref coc, .ref cob, .int (nI (mn + 1))])), (coc, .inl (V.2.2.1, 7, .inl (nIf (updN ch mn 0)))), (cob, .inl (V.2.2.1, 7, .inl (nIf (updN bd mn v))))]) rfl ?_
  exact g_vret X E dX2_addBound_34 () trivial rfl

set_option maxHeartbeats 4000000 in
set_option maxRecDepth 100000 in
theorem c_X2_choice (V : gV) (co : Nat) (coc : Nat) (cob : Nat) (ch : Nat → Nat) (mn : Int32) (i : Nat) (hi : i < 7) : Ki V yX2_choice cX2_choice 2 .int ({ frames := 1, cells := 0, slots := 0, locals := 21 }) [.ref co, .int (nI i)] [(co, .inr (2, [.ref coc, .ref cob, .int mn])), (coc, .inl (V.2.2.1, 7, .inl (nIf ch)))] (fun (r : Int32) (u : Unit) => r = nI (ch i)) (fun u => [(co, .inr (2, [.ref coc, .ref cob, .int mn])), (coc, .inl (V.2.2.1, 7, .inl (nIf ch)))]) := by
  refine Ki.of [some (.ref co), some (.int (nI i))] (by decide) (Nat.le_of_ble_eq_true rfl) rfl rfl ?_
  intro Z X E
  have X : gX V Z RX2 cX2_choice 2 ({ frames := 1, cells := 0, slots := 0, locals := 21 }) := X
  refine g_aload_n X dX2_choice_0 rfl ?_
  refine g_get X uwX2 0 rfl rfl 0 (by decide) kl_X2_9 rfl rfl gwX2 dX2_choice_1 ?_
  refine g_iload_n X dX2_choice_4 rfl ?_
  refine g_callNi X (c_X10_at V coc 7 (nIf ch) i (by omega) (by decide)) mo_X10_at kl_X2_26 [1] [0, 1] rfl (by decide +kernel) rfl rfl (fun _ => Nat.le_of_ble_eq_true rfl) (As := [.ref coc, .int (nI i)]) (st := []) (cs' := (0, 0)) rfl rfl rfl dX2_choice_5 (fun r_5 u_1 hp_2 ws_4 hw_3 => ?_)
  obtain rfl : r_5 = (nIf ch) i := hp_2
  have hw_3x : ws_4 = [(co, .inr (2, [.ref coc, .ref cob, .int mn])), (coc, .inl (V.2.2.1, 7, .inl (nIf ch)))] := hw_3.symm
  clear hw_3; subst hw_3x
  refine g_toe (nI (ch i)) rfl ?_
  exact g_iret X E dX2_choice_8 () (nI (ch i)) (by first | rfl | (simp []; done)) rfl

set_option maxHeartbeats 4000000 in
set_option maxRecDepth 100000 in
theorem c_X2_advance (V : gV) (co : Nat) (coc : Nat) (cob : Nat) (ch : Nat → Nat) (bd : Nat → Nat) (mn : Nat) (hm : mn ≤ 7) (hb : ∀ i, i < mn → bd i < 1000 ∧ ch i < 1000) : Ki V yX2_advance cX2_advance 2 .boolean ({ frames := 2, cells := 0, slots := 0, locals := 42 }) [.ref co] [(co, .inr (2, [.ref coc, .ref cob, .int (nI mn)])), (coc, .inl (V.2.2.1, 7, .inl (nIf ch))), (cob, .inl (V.2.2.1, 7, .inl (nIf bd)))] (fun (r : Int32) (u : (Nat → Nat)) => r = (if (advF bd mn ch).1 = true then 1 else 0) ∧ u = (advF bd mn ch).2) (fun u => [(co, .inr (2, [.ref coc, .ref cob, .int (nI mn)])), (coc, .inl (V.2.2.1, 7, .inl (nIf u))), (cob, .inl (V.2.2.1, 7, .inl (nIf bd)))]) := by
  refine Ki.of [some (.ref co), none] (by decide) (Nat.le_of_ble_eq_true rfl) rfl rfl ?_
  intro Z X E
  have X : gX V Z RX2 cX2_advance 2 ({ frames := 2, cells := 0, slots := 0, locals := 42 }) := X
  refine g_aload_n X dX2_advance_0 rfl ?_
  refine g_get X uwX2 0 rfl rfl 2 (by decide) kl_X2_18 rfl rfl gwX2 dX2_advance_1 ?_
  refine g_iconst X (1) dX2_advance_4 (by decide) ?_
  refine g_isub X dX2_advance_5 ?_
  refine g_istore_n X (L' := [some (.ref co), some (.int ((nI mn) - 1))]) dX2_advance_6 (by decide) rfl rfl ?_
  have loop7 : ∀ (d7 : Nat) (j : Nat) (c1 : Nat → Nat) (hj : j ≤ mn) (hb1 : ∀ i, i < mn → bd i < 1000 ∧ c1 i < 1000) (h1 : advF bd mn ch = advF bd j c1), j < d7 → G V Z 2 (0, 0) [(co, .inr (2, [.ref coc, .ref cob, .int (nI mn)])), (coc, .inl (V.2.2.1, 7, .inl (nIf c1))), (cob, .inl (V.2.2.1, 7, .inl (nIf bd)))] 7 [some (.ref co), some (.int (nI j - 1))] [] := by
    intro d7
    induction d7 with
    | zero => intro j c1 hj hb1 h1 hmu; exact absurd hmu (Nat.not_lt_zero _)
    | succ d7 ih7 =>
      intro j c1 hj hb1 h1 hmu
      cases j with
        | zero =>
          refine g_cast (L' := [some (.ref co), some (.int (-1))]) ?_ rfl (by rw [show nI 0 - 1 = -1 from by decide]) rfl
          refine g_iload_n X dX2_advance_7 rfl ?_
          refine g_if_lt X 61 dX2_advance_8 (by decide) (fun c8_1 => ?_) (fun c8_1 => absurd (by decide) c8_1)
          refine g_iconst X (0) dX2_advance_61 (by decide) ?_
          exact g_zret X E dX2_advance_62 c1 0 rfl ⟨(by rw [h1]; rfl), (by rw [h1]; rfl)⟩ rfl
        | succ j =>
          have hbj := hb1 j (by omega)
          refine g_cast (L' := [some (.ref co), some (.int (nI j))]) ?_ rfl (by rw [show nI (j + 1) - 1 = nI j from nI_pred j]) rfl
          refine g_iload_n X dX2_advance_7 rfl ?_
          refine g_if_lt X 61 dX2_advance_8 (by decide) (fun c8_2 => absurd c8_2 (flt (a := j) (b := 0) (by omega) (by omega) (by omega))) (fun c8_2 => ?_)
          refine g_aload_n X dX2_advance_11 rfl ?_
          refine g_iload_n X dX2_advance_12 rfl ?_
          refine g_callVi X (c_X2_choice V co coc cob c1 (nI mn) j (by omega)) mo_X2_choice kl_X2_30 [0, 1] [1, 2, 0] rfl (by decide +kernel) rfl rfl (fun _ => Nat.le_of_ble_eq_true rfl) 0 2 rfl rfl (As := [.int (nI j)]) (st := []) (cs' := (0, 0)) rfl rfl rfl rfl dX2_advance_13 (fun r_7 u_3 hp_4 ws_6 hw_5 => ?_)
          obtain rfl : r_7 = nI (c1 j) := hp_4
          have hw_5x : ws_6 = [(co, .inr (2, [.ref coc, .ref cob, .int (nI mn)])), (coc, .inl (V.2.2.1, 7, .inl (nIf c1))), (cob, .inl (V.2.2.1, 7, .inl (nIf bd)))] := hw_5.symm
          clear hw_5; subst hw_5x
          refine g_iconst X (1) dX2_advance_16 (by decide) ?_
          refine g_iadd X dX2_advance_17 ?_
          refine g_toe (x' := nI (c1 j + 1)) (nI_add' rfl rfl) ?_
          refine g_aload_n X dX2_advance_18 rfl ?_
          refine g_get X uwX2 0 rfl rfl 1 (by decide) kl_X2_15 rfl rfl gwX2 dX2_advance_19 ?_
          refine g_iload_n X dX2_advance_22 rfl ?_
          refine g_callNi X (c_X10_at V cob 7 (nIf bd) j (by omega) (by decide)) mo_X10_at kl_X2_26 [2] [0, 0, 1] rfl (by decide +kernel) rfl rfl (fun _ => Nat.le_of_ble_eq_true rfl) (As := [.ref cob, .int (nI j)]) (st := [.int (nI (c1 j + 1))]) (cs' := (0, 0)) rfl rfl rfl dX2_advance_23 (fun r_12 u_8 hp_9 ws_11 hw_10 => ?_)
          obtain rfl : r_12 = (nIf bd) j := hp_9
          have hw_10x : ws_11 = [(co, .inr (2, [.ref coc, .ref cob, .int (nI mn)])), (coc, .inl (V.2.2.1, 7, .inl (nIf c1))), (cob, .inl (V.2.2.1, 7, .inl (nIf bd)))] := hw_10.symm
          clear hw_10; subst hw_10x
          refine g_toe (nI (bd j)) rfl ?_
          refine g_icmp_ge X 46 dX2_advance_26 (by decide) (fun c26_13 => ?_) (fun c26_13 => ?_)
          · have c26_13n := ige' (a := c1 j + 1) (b := bd j) c26_13 (by omega) (by omega)
            refine g_aload_n X dX2_advance_46 rfl ?_
            refine g_get X uwX2 0 rfl rfl 0 (by decide) kl_X2_9 rfl rfl gwX2 dX2_advance_47 ?_
            refine g_iload_n X dX2_advance_50 rfl ?_
            refine g_iconst X (0) dX2_advance_51 (by decide) ?_
            refine g_callNv X (c_X10_put V coc 7 (nIf c1) j 0 (by omega) (by decide)) mo_X10_put kl_X2_22 [1] [0, 1, 0] rfl (by decide +kernel) rfl rfl (fun _ => Nat.le_of_ble_eq_true rfl) (As := [.ref coc, .int (nI j), .int 0]) (st := []) (cs' := (0, 0)) rfl rfl rfl dX2_advance_52 (fun nf_14 hp_15 ws_17 hw_16 => ?_)
            obtain rfl : nf_14 = upd (nIf c1) j 0 := hp_15
            have hw_16x : ws_17 = [(co, .inr (2, [.ref coc, .ref cob, .int (nI mn)])), (coc, .inl (V.2.2.1, 7, .inl (upd (nIf c1) j 0))), (cob, .inl (V.2.2.1, 7, .inl (nIf bd)))] := hw_16.symm
            clear hw_16; subst hw_16x
            refine g_arr 1 (nIf (updN c1 j 0)) rfl (fun i _ => updN_eq c1 j 0 i) (ws' := [(co, .inr (2, [.ref coc, .ref cob, .int (nI mn)])), (coc, .inl (V.2.2.1, 7, .inl (nIf (updN c1 j 0)))), (cob, .inl (V.2.2.1, 7, .inl (nIf bd)))]) rfl ?_
            refine g_iinc X (v := nI j - 1) (L' := [some (.ref co), some (.int (nI j - 1))]) dX2_advance_55 rfl (by rw [show Int32.ofInt (-1) = -1 from by decide, ← Int32.sub_eq_add_neg]) (by decide) rfl rfl ?_
            refine g_goto X 7 dX2_advance_58 (by decide) ?_
            exact ih7 j (updN c1 j 0) (by omega) (fun i hi => ⟨(hb1 i hi).1, by rw [updN]; split; omega; exact (hb1 i hi).2⟩) (by rw [h1, advF, if_neg (by omega)]) (by omega)
          · have c26_13n := inge' (a := c1 j + 1) (b := bd j) c26_13 (by omega) (by omega)
            refine g_aload_n X dX2_advance_29 rfl ?_
            refine g_get X uwX2 0 rfl rfl 0 (by decide) kl_X2_9 rfl rfl gwX2 dX2_advance_30 ?_
            refine g_iload_n X dX2_advance_33 rfl ?_
            refine g_aload_n X dX2_advance_34 rfl ?_
            refine g_iload_n X dX2_advance_35 rfl ?_
            refine g_callVi X (c_X2_choice V co coc cob c1 (nI mn) j (by omega)) mo_X2_choice kl_X2_30 [0, 1] [1, 2, 0] rfl (by decide +kernel) rfl rfl (fun _ => Nat.le_of_ble_eq_true rfl) 0 2 rfl rfl (As := [.int (nI j)]) (st := [.int (nI j), .ref coc]) (cs' := (0, 0)) rfl rfl rfl rfl dX2_advance_36 (fun r_23 u_19 hp_20 ws_22 hw_21 => ?_)
            obtain rfl : r_23 = nI (c1 j) := hp_20
            have hw_21x : ws_22 = [(co, .inr (2, [.ref coc, .ref cob, .int (nI mn)])), (coc, .inl (V.2.2.1, 7, .inl (nIf c1))), (cob, .inl (V.2.2.1, 7, .inl (nIf bd)))] := hw_21.symm
            clear hw_21; subst hw_21x
            refine g_iconst X (1) dX2_advance_39 (by decide) ?_
            refine g_iadd X dX2_advance_40 ?_
            refine g_toe (x' := nI (c1 j + 1)) (nI_add' rfl rfl) ?_
            refine g_callNv X (c_X10_put V coc 7 (nIf c1) j (nI (c1 j + 1)) (by omega) (by decide)) mo_X10_put kl_X2_22 [1] [0, 1, 0] rfl (by decide +kernel) rfl rfl (fun _ => Nat.le_of_ble_eq_true rfl) (As := [.ref coc, .int (nI j), .int (nI (c1 j + 1))]) (st := []) (cs' := (0, 0)) rfl rfl rfl dX2_advance_41 (fun nf_24 hp_25 ws_27 hw_26 => ?_)
            obtain rfl : nf_24 = upd (nIf c1) j (nI (c1 j + 1)) := hp_25
            have hw_26x : ws_27 = [(co, .inr (2, [.ref coc, .ref cob, .int (nI mn)])), (coc, .inl (V.2.2.1, 7, .inl (upd (nIf c1) j (nI (c1 j + 1))))), (cob, .inl (V.2.2.1, 7, .inl (nIf bd)))] := hw_26.symm
            clear hw_26; subst hw_26x
            refine g_arr 1 (nIf (updN c1 j (c1 j + 1))) rfl (fun i _ => updN_eq c1 j (c1 j + 1) i) (ws' := [(co, .inr (2, [.ref coc, .ref cob, .int (nI mn)])), (coc, .inl (V.2.2.1, 7, .inl (nIf (updN c1 j (c1 j + 1))))), (cob, .inl (V.2.2.1, 7, .inl (nIf bd)))]) rfl ?_
            refine g_iconst X (1) dX2_advance_44 (by decide) ?_
            exact g_zret X E dX2_advance_45 (updN c1 j (c1 j + 1)) 1 rfl ⟨(by rw [h1, advF, if_pos (show c1 j + 1 < bd j by omega)]; rfl), (by rw [h1, advF, if_pos (show c1 j + 1 < bd j by omega)])⟩ rfl
  exact loop7 _ mn ch (Nat.le_refl _) hb rfl (Nat.lt_succ_self _)

set_option maxHeartbeats 4000000 in
set_option maxRecDepth 100000 in
theorem c_X2_free (V : gV) (t : Nat) (q : Nat) (ht : t < 256) (hf : freeN t q < 8) (hq : q < 2147483648) : Ki V yX2_free cX2_free 4 .int ({ frames := 0, cells := 0, slots := 0, locals := 0 }) [.int (nI t), .int (nI q)] [] (fun (r : Int32) (u : Unit) => r = nI (freeN t q)) (fun u => []) := by
  refine Ki.of [some (.int (nI t)), some (.int (nI q)), none, none] (by decide) (Nat.le_of_ble_eq_true rfl) rfl rfl ?_
  intro Z X E
  have X : gX V Z RX2 cX2_free 4 ({ frames := 0, cells := 0, slots := 0, locals := 0 }) := X
  refine g_iconst X (0) dX2_free_0 (by decide) ?_
  refine g_istore_n X (L' := [some (.int (nI t)), some (.int (nI q)), some (.int 0), none]) dX2_free_1 (by decide) rfl rfl ?_
  refine g_iconst X (0) dX2_free_2 (by decide) ?_
  refine g_istore_n X (L' := [some (.int (nI t)), some (.int (nI q)), some (.int 0), some (.int 0)]) dX2_free_3 (by decide) rfl rfl ?_
  have loop4 : ∀ (d4 c : Nat), c + d4 = 8 → ∀ (sk : Nat) (hsk : sk = cnt (fun j => !t.testBit j) c) (h1 : fst1 (freeP t q) c = none), G V Z 4 (0, 0) [] 4 [some (.int (nI t)), some (.int (nI q)), some (.int (nI sk)), some (.int (nI c))] [] := by
    intro d4
    induction d4 with
    | zero =>
      intro c hc sk hsk h1
      have hskc : sk ≤ c := by rw [hsk]; exact cnt_le _ _
      refine g_iload_n X dX2_free_4 rfl ?_
      refine g_bipush X (7) dX2_free_5 (by decide) ?_
      refine g_icmp_gt X 34 dX2_free_7 (by decide) (fun c7_1 => ?_) (fun c7_1 => absurd (tgt (a := c) (b := 7) (by omega) (by omega) (by omega)) c7_1)
      refine g_bipush X (-4) dX2_free_34 (by decide) ?_
      exact g_iret X E dX2_free_36 () (-4) (by have e : c = 8 := (by omega); subst e; rw [freeN, h1] at hf; exact absurd hf (by decide)) rfl
    | succ d4 ih4 =>
      intro c hc sk hsk h1
      have hskc : sk ≤ c := by rw [hsk]; exact cnt_le _ _
      refine g_iload_n X dX2_free_4 rfl ?_
      refine g_bipush X (7) dX2_free_5 (by decide) ?_
      refine g_icmp_gt X 34 dX2_free_7 (by decide) (fun c7_2 => absurd c7_2 (fgt (a := c) (b := 7) (by omega) (by omega) (by omega))) (fun c7_2 => ?_)
      refine g_iload_n X dX2_free_10 rfl ?_
      refine g_iload_n X dX2_free_11 rfl ?_
      refine g_ishr X dX2_free_12 ?_
      refine g_iconst X (1) dX2_free_13 (by decide) ?_
      refine g_iand X dX2_free_14 ?_
      refine g_if_ne X 28 dX2_free_15 (by decide) (fun c15_3 => ?_) (fun c15_3 => ?_)
      · have hbt : t.testBit c = true := by have z := c15_3; rw [bit01 t ht c (by omega)] at z; revert z; cases t.testBit c <;> simp
        refine g_iinc X (v := nI (c + 1)) (L' := [some (.int (nI t)), some (.int (nI q)), some (.int (nI sk)), some (.int (nI (c + 1)))]) dX2_free_28 rfl (nI_addk (by decide)) (by decide) rfl rfl ?_
        refine g_goto X 4 dX2_free_31 (by decide) ?_
        exact ih4 (c + 1) (by omega) sk (by rw [cnt_s, ← hsk]; simp [hbt]) (fst1_n h1 (by rw [freeP]; simp [hbt]))
      · have hbt : t.testBit c = false := by have z := c15_3; rw [bit01 t ht c (by omega)] at z; revert z; cases t.testBit c <;> simp
        refine g_iload_n X dX2_free_18 rfl ?_
        refine g_iload_n X dX2_free_19 rfl ?_
        refine g_icmp_ne X 25 dX2_free_20 (by decide) (fun c20_4 => ?_) (fun c20_4 => ?_)
        · have c20_4n := ine' (a := sk) (b := q) c20_4 (by omega) (by omega)
          refine g_iinc X (v := nI (sk + 1)) (L' := [some (.int (nI t)), some (.int (nI q)), some (.int (nI (sk + 1))), some (.int (nI c))]) dX2_free_25 rfl (nI_addk (by decide)) (by decide) rfl rfl ?_
          refine g_iinc X (v := nI (c + 1)) (L' := [some (.int (nI t)), some (.int (nI q)), some (.int (nI (sk + 1))), some (.int (nI (c + 1)))]) dX2_free_28 rfl (nI_addk (by decide)) (by decide) rfl rfl ?_
          refine g_goto X 4 dX2_free_31 (by decide) ?_
          exact ih4 (c + 1) (by omega) (sk + 1) (by rw [cnt_s, ← hsk]; simp [hbt]) (fst1_n h1 (by rw [freeP]; simp [hbt]; omega))
        · have c20_4n := ieq' (a := sk) (b := q) c20_4 (by omega) (by omega)
          refine g_iload_n X dX2_free_23 rfl ?_
          exact g_iret X E dX2_free_24 () (nI c) (by rw [freeN, fst1_at (r := c) h1 (by rw [freeP, if_neg (by rw [hbt]; decide), if_pos (by rw [← hsk]; omega)]) (by omega)]; rfl) rfl
  exact loop4 8 0 (by omega) 0 rfl rfl
