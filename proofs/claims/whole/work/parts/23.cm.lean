set_option maxHeartbeats 4000000 in
set_option maxRecDepth 100000 in
theorem c_X10_draw (V : gV) (z : Nat) (kk : Nat) (hz : z ≤ 9999) (hkk : kk < 60) : Ki V yX10_draw cX10_draw 4 .int ({ frames := 0, cells := 0, slots := 0, locals := 0 }) [.int (nI z), .int (nI kk)] [] (fun (r : Int32) (u : Unit) => r = nI (drN z kk)) (fun u => []) := by
  refine Ki.of [some (.int (nI z)), some (.int (nI kk)), none, none] (by decide) (Nat.le_of_ble_eq_true rfl) rfl rfl ?_
  intro Z X E
  have X : gX V Z RX10 cX10_draw 4 ({ frames := 0, cells := 0, slots := 0, locals := 0 }) := X
  refine g_ldc2 X kl_X10_248 dX10_draw_0 ?_
  refine g_iload_n X dX10_draw_3 rfl ?_
  refine g_i2l X dX10_draw_4 ?_
  refine g_lmul X dX10_draw_5 ?_
  refine g_ldc2 X kl_X10_250 dX10_draw_6 ?_
  refine g_iload_n X dX10_draw_9 rfl ?_
  refine g_i2l X dX10_draw_10 ?_
  refine g_lmul X dX10_draw_11 ?_
  refine g_ladd X dX10_draw_12 ?_
  refine g_lconst X 1 dX10_draw_13 (by decide) ?_
  refine g_ladd X dX10_draw_14 ?_
  refine g_lstore_n X (L' := [some (.int (nI z)), some (.int (nI kk)), some (.long (((7919 * ((nI z).toInt64)) + (6151 * ((nI kk).toInt64))) + 1)), none]) dX10_draw_15 (by decide) rfl rfl ?_
  refine g_lload_n X dX10_draw_16 rfl ?_
  refine g_lload_n X dX10_draw_17 rfl ?_
  refine g_lmul X dX10_draw_18 ?_
  refine g_ldc2 X kl_X10_252 dX10_draw_19 ?_
  refine g_lrem X dX10_draw_22 (by decide) ?_
  refine g_ldc2 X kl_X10_254 dX10_draw_23 ?_
  refine g_ldiv X dX10_draw_26 (by decide) ?_
  refine g_l2i X dX10_draw_27 ?_
  exact g_iret X E dX10_draw_28 () (((((((7919 * ((nI z).toInt64)) + (6151 * ((nI kk).toInt64))) + 1) * (((7919 * ((nI z).toInt64)) + (6151 * ((nI kk).toInt64))) + 1)) - ((((7919 * ((nI z).toInt64)) + (6151 * ((nI kk).toInt64))) + 1) * (((7919 * ((nI z).toInt64)) + (6151 * ((nI kk).toInt64))) + 1)) / 65521 * 65521) / 8).toInt32) (draw_eq hz hkk) rfl

set_option maxHeartbeats 4000000 in
set_option maxRecDepth 100000 in
theorem c_X10_partInLowestTerms (V : gV) (ab : Int32) (q : Nat) (pt : Int32) (hq : q ≤ 6) : Ki V yX10_partInLowestTerms cX10_partInLowestTerms 5 .int ({ frames := 0, cells := 0, slots := 0, locals := 0 }) [.int ab, .int (nI q), .int pt] [] (fun (r : Int32) (u : Unit) => r = (if pt = 0 then (lowF ab q).1 else (lowF ab q).2)) (fun u => []) := by
  refine Ki.of [some (.int ab), some (.int (nI q)), some (.int pt), none, none] (by decide) (Nat.le_of_ble_eq_true rfl) rfl rfl ?_
  intro Z X E
  have X : gX V Z RX10 cX10_partInLowestTerms 5 ({ frames := 0, cells := 0, slots := 0, locals := 0 }) := X
  refine g_iconst X (1) dX10_partInLowestTerms_0 (by decide) ?_
  refine g_istore_n X (L' := [some (.int ab), some (.int (nI q)), some (.int pt), some (.int 1), none]) dX10_partInLowestTerms_1 (by decide) rfl rfl ?_
  refine g_iconst X (0) dX10_partInLowestTerms_2 (by decide) ?_
  refine g_istore X (L' := [some (.int ab), some (.int (nI q)), some (.int pt), some (.int 1), some (.int 0)]) dX10_partInLowestTerms_3 (by decide) rfl rfl ?_
  have loop5 : ∀ (d5 i : Nat), i + d5 = q → ∀ (be : Int32) (h1 : be = tenF i), G V Z 5 (0, 0) [] 5 [some (.int ab), some (.int (nI q)), some (.int pt), some (.int be), some (.int (nI i))] [] := by
    intro d5
    induction d5 with
    | zero =>
      intro i hi be h1
      refine g_iload X dX10_partInLowestTerms_5 rfl ?_
      refine g_iload_n X dX10_partInLowestTerms_7 rfl ?_
      refine g_icmp_ge X 22 dX10_partInLowestTerms_8 (by decide) (fun c8_1 => ?_) (fun c8_1 => absurd (tge (a := i) (b := q) (by omega) (by omega) (by omega)) c8_1)
      refine g_iconst X (0) dX10_partInLowestTerms_22 (by decide) ?_
      refine g_istore X (L' := [some (.int ab), some (.int (nI q)), some (.int pt), some (.int be), some (.int 0)]) dX10_partInLowestTerms_23 (by decide) rfl rfl ?_
      have loop25_2 : ∀ (d25 j : Nat), j + d25 = q → ∀ (a1 : Int32) (b1 : Int32) (h2 : (a1, b1) = it (fun _ s => redS s) j (ab, tenF q)), G V Z 5 (0, 0) [] 25 [some (.int a1), some (.int (nI q)), some (.int pt), some (.int b1), some (.int (nI j))] [] := by
        intro d25
        induction d25 with
        | zero =>
          intro j hj a1 b1 h2
          refine g_iload X dX10_partInLowestTerms_25 rfl ?_
          refine g_iload_n X dX10_partInLowestTerms_27 rfl ?_
          refine g_icmp_ge X 77 dX10_partInLowestTerms_28 (by decide) (fun c28_3 => ?_) (fun c28_3 => absurd (tge (a := j) (b := q) (by omega) (by omega) (by omega)) c28_3)
          refine g_iload_n X dX10_partInLowestTerms_77 rfl ?_
          refine g_if_ne X 85 dX10_partInLowestTerms_78 (by decide) (fun c78_4 => ?_) (fun c78_4 => ?_)
          · refine g_iload_n X dX10_partInLowestTerms_85 rfl ?_
            exact g_iret X E dX10_partInLowestTerms_86 () b1 (by have e : j = q := (by omega); subst e; rw [lowF, ← h2]; simp [c78_4]) rfl
          · refine g_iload_n X dX10_partInLowestTerms_81 rfl ?_
            refine g_goto X 86 dX10_partInLowestTerms_82 (by decide) ?_
            exact g_iret X E dX10_partInLowestTerms_86 () a1 (by have e : j = q := (by omega); subst e; rw [lowF, ← h2]; simp [c78_4]) rfl
        | succ d25 ih25 =>
          intro j hj a1 b1 h2
          refine g_iload X dX10_partInLowestTerms_25 rfl ?_
          refine g_iload_n X dX10_partInLowestTerms_27 rfl ?_
          refine g_icmp_ge X 77 dX10_partInLowestTerms_28 (by decide) (fun c28_5 => absurd c28_5 (fge (a := j) (b := q) (by omega) (by omega) (by omega))) (fun c28_5 => ?_)
          refine g_iload_n X dX10_partInLowestTerms_31 rfl ?_
          refine g_iconst X (2) dX10_partInLowestTerms_32 (by decide) ?_
          refine g_rem X dX10_partInLowestTerms_33 (by decide) ?_
          refine g_if_ne X 51 dX10_partInLowestTerms_34 (by decide) (fun c34_6 => ?_) (fun c34_6 => ?_)
          · refine g_iload_n X dX10_partInLowestTerms_51 rfl ?_
            refine g_iconst X (5) dX10_partInLowestTerms_52 (by decide) ?_
            refine g_rem X dX10_partInLowestTerms_53 (by decide) ?_
            refine g_if_ne X 71 dX10_partInLowestTerms_54 (by decide) (fun c54_7 => ?_) (fun c54_7 => ?_)
            · refine g_iinc X (v := nI (j + 1)) (L' := [some (.int a1), some (.int (nI q)), some (.int pt), some (.int b1), some (.int (nI (j + 1)))]) dX10_partInLowestTerms_71 rfl (nI_addk (by decide)) (by decide) rfl rfl ?_
              refine g_goto X 25 dX10_partInLowestTerms_74 (by decide) ?_
              exact ih25 (j + 1) (by omega) a1 b1 (by rw [it_s, ← h2, redS]; simp [c34_6, c54_7])
            · refine g_iload_n X dX10_partInLowestTerms_57 rfl ?_
              refine g_iconst X (5) dX10_partInLowestTerms_58 (by decide) ?_
              refine g_rem X dX10_partInLowestTerms_59 (by decide) ?_
              refine g_if_ne X 71 dX10_partInLowestTerms_60 (by decide) (fun c60_8 => ?_) (fun c60_8 => ?_)
              · refine g_iinc X (v := nI (j + 1)) (L' := [some (.int a1), some (.int (nI q)), some (.int pt), some (.int b1), some (.int (nI (j + 1)))]) dX10_partInLowestTerms_71 rfl (nI_addk (by decide)) (by decide) rfl rfl ?_
                refine g_goto X 25 dX10_partInLowestTerms_74 (by decide) ?_
                exact ih25 (j + 1) (by omega) a1 b1 (by rw [it_s, ← h2, redS]; simp [c34_6, c54_7, c60_8])
              · refine g_iload_n X dX10_partInLowestTerms_63 rfl ?_
                refine g_iconst X (5) dX10_partInLowestTerms_64 (by decide) ?_
                refine g_idiv X dX10_partInLowestTerms_65 (by decide) ?_
                refine g_istore_n X (L' := [some (.int (a1 / 5)), some (.int (nI q)), some (.int pt), some (.int b1), some (.int (nI j))]) dX10_partInLowestTerms_66 (by decide) rfl rfl ?_
                refine g_iload_n X dX10_partInLowestTerms_67 rfl ?_
                refine g_iconst X (5) dX10_partInLowestTerms_68 (by decide) ?_
                refine g_idiv X dX10_partInLowestTerms_69 (by decide) ?_
                refine g_istore_n X (L' := [some (.int (a1 / 5)), some (.int (nI q)), some (.int pt), some (.int (b1 / 5)), some (.int (nI j))]) dX10_partInLowestTerms_70 (by decide) rfl rfl ?_
                refine g_iinc X (v := nI (j + 1)) (L' := [some (.int (a1 / 5)), some (.int (nI q)), some (.int pt), some (.int (b1 / 5)), some (.int (nI (j + 1)))]) dX10_partInLowestTerms_71 rfl (nI_addk (by decide)) (by decide) rfl rfl ?_
                refine g_goto X 25 dX10_partInLowestTerms_74 (by decide) ?_
                exact ih25 (j + 1) (by omega) (a1 / 5) (b1 / 5) (by rw [it_s, ← h2, redS]; simp [c34_6, c54_7, c60_8])
          · refine g_iload_n X dX10_partInLowestTerms_37 rfl ?_
            refine g_iconst X (2) dX10_partInLowestTerms_38 (by decide) ?_
            refine g_rem X dX10_partInLowestTerms_39 (by decide) ?_
            refine g_if_ne X 51 dX10_partInLowestTerms_40 (by decide) (fun c40_9 => ?_) (fun c40_9 => ?_)
            · refine g_iload_n X dX10_partInLowestTerms_51 rfl ?_
              refine g_iconst X (5) dX10_partInLowestTerms_52 (by decide) ?_
              refine g_rem X dX10_partInLowestTerms_53 (by decide) ?_
              refine g_if_ne X 71 dX10_partInLowestTerms_54 (by decide) (fun c54_10 => ?_) (fun c54_10 => ?_)
              · refine g_iinc X (v := nI (j + 1)) (L' := [some (.int a1), some (.int (nI q)), some (.int pt), some (.int b1), some (.int (nI (j + 1)))]) dX10_partInLowestTerms_71 rfl (nI_addk (by decide)) (by decide) rfl rfl ?_
                refine g_goto X 25 dX10_partInLowestTerms_74 (by decide) ?_
                exact ih25 (j + 1) (by omega) a1 b1 (by rw [it_s, ← h2, redS]; simp [c34_6, c40_9, c54_10])
              · refine g_iload_n X dX10_partInLowestTerms_57 rfl ?_
                refine g_iconst X (5) dX10_partInLowestTerms_58 (by decide) ?_
                refine g_rem X dX10_partInLowestTerms_59 (by decide) ?_
                refine g_if_ne X 71 dX10_partInLowestTerms_60 (by decide) (fun c60_11 => ?_) (fun c60_11 => ?_)
                · refine g_iinc X (v := nI (j + 1)) (L' := [some (.int a1), some (.int (nI q)), some (.int pt), some (.int b1), some (.int (nI (j + 1)))]) dX10_partInLowestTerms_71 rfl (nI_addk (by decide)) (by decide) rfl rfl ?_
                  refine g_goto X 25 dX10_partInLowestTerms_74 (by decide) ?_
                  exact ih25 (j + 1) (by omega) a1 b1 (by rw [it_s, ← h2, redS]; simp [c34_6, c40_9, c54_10, c60_11])
                · refine g_iload_n X dX10_partInLowestTerms_63 rfl ?_
                  refine g_iconst X (5) dX10_partInLowestTerms_64 (by decide) ?_
                  refine g_idiv X dX10_partInLowestTerms_65 (by decide) ?_
                  refine g_istore_n X (L' := [some (.int (a1 / 5)), some (.int (nI q)), some (.int pt), some (.int b1), some (.int (nI j))]) dX10_partInLowestTerms_66 (by decide) rfl rfl ?_
                  refine g_iload_n X dX10_partInLowestTerms_67 rfl ?_
                  refine g_iconst X (5) dX10_partInLowestTerms_68 (by decide) ?_
                  refine g_idiv X dX10_partInLowestTerms_69 (by decide) ?_
                  refine g_istore_n X (L' := [some (.int (a1 / 5)), some (.int (nI q)), some (.int pt), some (.int (b1 / 5)), some (.int (nI j))]) dX10_partInLowestTerms_70 (by decide) rfl rfl ?_
                  refine g_iinc X (v := nI (j + 1)) (L' := [some (.int (a1 / 5)), some (.int (nI q)), some (.int pt), some (.int (b1 / 5)), some (.int (nI (j + 1)))]) dX10_partInLowestTerms_71 rfl (nI_addk (by decide)) (by decide) rfl rfl ?_
                  refine g_goto X 25 dX10_partInLowestTerms_74 (by decide) ?_
                  exact ih25 (j + 1) (by omega) (a1 / 5) (b1 / 5) (by rw [it_s, ← h2, redS]; simp [c34_6, c40_9, c54_10, c60_11])
            · refine g_iload_n X dX10_partInLowestTerms_43 rfl ?_
              refine g_iconst X (2) dX10_partInLowestTerms_44 (by decide) ?_
              refine g_idiv X dX10_partInLowestTerms_45 (by decide) ?_
              refine g_istore_n X (L' := [some (.int (a1 / 2)), some (.int (nI q)), some (.int pt), some (.int b1), some (.int (nI j))]) dX10_partInLowestTerms_46 (by decide) rfl rfl ?_
              refine g_iload_n X dX10_partInLowestTerms_47 rfl ?_
              refine g_iconst X (2) dX10_partInLowestTerms_48 (by decide) ?_
              refine g_idiv X dX10_partInLowestTerms_49 (by decide) ?_
              refine g_istore_n X (L' := [some (.int (a1 / 2)), some (.int (nI q)), some (.int pt), some (.int (b1 / 2)), some (.int (nI j))]) dX10_partInLowestTerms_50 (by decide) rfl rfl ?_
              refine g_iload_n X dX10_partInLowestTerms_51 rfl ?_
              refine g_iconst X (5) dX10_partInLowestTerms_52 (by decide) ?_
              refine g_rem X dX10_partInLowestTerms_53 (by decide) ?_
              refine g_if_ne X 71 dX10_partInLowestTerms_54 (by decide) (fun c54_12 => ?_) (fun c54_12 => ?_)
              · refine g_iinc X (v := nI (j + 1)) (L' := [some (.int (a1 / 2)), some (.int (nI q)), some (.int pt), some (.int (b1 / 2)), some (.int (nI (j + 1)))]) dX10_partInLowestTerms_71 rfl (nI_addk (by decide)) (by decide) rfl rfl ?_
                refine g_goto X 25 dX10_partInLowestTerms_74 (by decide) ?_
                exact ih25 (j + 1) (by omega) (a1 / 2) (b1 / 2) (by rw [it_s, ← h2, redS]; simp [c34_6, c40_9, c54_12])
              · refine g_iload_n X dX10_partInLowestTerms_57 rfl ?_
                refine g_iconst X (5) dX10_partInLowestTerms_58 (by decide) ?_
                refine g_rem X dX10_partInLowestTerms_59 (by decide) ?_
                refine g_if_ne X 71 dX10_partInLowestTerms_60 (by decide) (fun c60_13 => ?_) (fun c60_13 => ?_)
                · refine g_iinc X (v := nI (j + 1)) (L' := [some (.int (a1 / 2)), some (.int (nI q)), some (.int pt), some (.int (b1 / 2)), some (.int (nI (j + 1)))]) dX10_partInLowestTerms_71 rfl (nI_addk (by decide)) (by decide) rfl rfl ?_
                  refine g_goto X 25 dX10_partInLowestTerms_74 (by decide) ?_
                  exact ih25 (j + 1) (by omega) (a1 / 2) (b1 / 2) (by rw [it_s, ← h2, redS]; simp [c34_6, c40_9, c54_12, c60_13])
                · refine g_iload_n X dX10_partInLowestTerms_63 rfl ?_
                  refine g_iconst X (5) dX10_partInLowestTerms_64 (by decide) ?_
                  refine g_idiv X dX10_partInLowestTerms_65 (by decide) ?_
                  refine g_istore_n X (L' := [some (.int ((a1 / 2) / 5)), some (.int (nI q)), some (.int pt), some (.int (b1 / 2)), some (.int (nI j))]) dX10_partInLowestTerms_66 (by decide) rfl rfl ?_
                  refine g_iload_n X dX10_partInLowestTerms_67 rfl ?_
                  refine g_iconst X (5) dX10_partInLowestTerms_68 (by decide) ?_
                  refine g_idiv X dX10_partInLowestTerms_69 (by decide) ?_
                  refine g_istore_n X (L' := [some (.int ((a1 / 2) / 5)), some (.int (nI q)), some (.int pt), some (.int ((b1 / 2) / 5)), some (.int (nI j))]) dX10_partInLowestTerms_70 (by decide) rfl rfl ?_
                  refine g_iinc X (v := nI (j + 1)) (L' := [some (.int ((a1 / 2) / 5)), some (.int (nI q)), some (.int pt), some (.int ((b1 / 2) / 5)), some (.int (nI (j + 1)))]) dX10_partInLowestTerms_71 rfl (nI_addk (by decide)) (by decide) rfl rfl ?_
                  refine g_goto X 25 dX10_partInLowestTerms_74 (by decide) ?_
                  exact ih25 (j + 1) (by omega) ((a1 / 2) / 5) ((b1 / 2) / 5) (by rw [it_s, ← h2, redS]; simp [c34_6, c40_9, c54_12, c60_13])
      exact loop25_2 q 0 (by omega) ab be (by have e : i = q := (by omega); subst e; rw [h1]; rfl)
    | succ d5 ih5 =>
      intro i hi be h1
      refine g_iload X dX10_partInLowestTerms_5 rfl ?_
      refine g_iload_n X dX10_partInLowestTerms_7 rfl ?_
      refine g_icmp_ge X 22 dX10_partInLowestTerms_8 (by decide) (fun c8_14 => absurd c8_14 (fge (a := i) (b := q) (by omega) (by omega) (by omega))) (fun c8_14 => ?_)
      refine g_iload_n X dX10_partInLowestTerms_11 rfl ?_
      refine g_bipush X (10) dX10_partInLowestTerms_12 (by decide) ?_
      refine g_imul X dX10_partInLowestTerms_14 ?_
      refine g_istore_n X (L' := [some (.int ab), some (.int (nI q)), some (.int pt), some (.int (be * 10)), some (.int (nI i))]) dX10_partInLowestTerms_15 (by decide) rfl rfl ?_
      refine g_iinc X (v := nI (i + 1)) (L' := [some (.int ab), some (.int (nI q)), some (.int pt), some (.int (be * 10)), some (.int (nI (i + 1)))]) dX10_partInLowestTerms_16 rfl (nI_addk (by decide)) (by decide) rfl rfl ?_
      refine g_goto X 5 dX10_partInLowestTerms_19 (by decide) ?_
      exact ih5 (i + 1) (by omega) (be * 10) (by rw [tenF, it_s, ← tenF, ← h1])
  exact loop5 q 0 (by omega) 1 rfl

set_option maxHeartbeats 4000000 in
set_option maxRecDepth 100000 in
theorem m_draughts_bad (V : gV) (x0 : Nat) (t : Nat) (d : Nat) (h : Nat) (s : Nat) (o : Nat) (p : Nat) (p2 : Nat) (ru : Nat) (cu : Nat) (br : Nat) (bt : Nat) (hk : Nat) (hfw : Nat) (hfg : Nat) (hwb : Nat) (hld : Nat) (hte : Nat) (hpu : Nat) (hnu : Nat) (n : Nat) (m : Nat) (hwa : Int32) (hto : Int32) (c : Int32) (v : Int32) (x : Int32) (y : Int32) (hn : n ≤ 7) (hbad : ¬ (okC n c ∧ ¬ v < 0 ∧ ¬ 6 < v ∧ ¬ x < 0 ∧ ¬ 10 < x ∧ ¬ y < 0 ∧ y ≤ 1)) : Ki V yX10_draughts cX10_draughts 10 .int ({ frames := 1, cells := 0, slots := 0, locals := 21 }) [.ref x0, .int c, .int v, .int x, .int y] [(x0, .inr (10, [.ref t, .ref d, .ref h, .ref s, .ref o, .ref p, .ref p2, .ref ru, .ref cu, .ref br, .ref bt])), (h, .inr (4, [.ref hk, .ref hfw, .ref hfg, .ref hwb, .ref hld, .ref hte, .ref hpu, .int (nI n), .int hwa, .int (nI m), .ref hnu, .int hto]))] (fun (r : Int32) (u : Unit) => r = -1) (fun u => [(x0, .inr (10, [.ref t, .ref d, .ref h, .ref s, .ref o, .ref p, .ref p2, .ref ru, .ref cu, .ref br, .ref bt])), (h, .inr (4, [.ref hk, .ref hfw, .ref hfg, .ref hwb, .ref hld, .ref hte, .ref hpu, .int (nI n), .int hwa, .int (nI m), .ref hnu, .int hto]))]) := by
  refine Ki.of [some (.ref x0), some (.int c), some (.int v), some (.int x), some (.int y), none, none, none, none, none] (by decide) (Nat.le_of_ble_eq_true rfl) rfl rfl ?_
  intro Z X E
  have X : gX V Z RX10 cX10_draughts 10 ({ frames := 1, cells := 0, slots := 0, locals := 21 }) := X
  refine g_aload_n X dX10_draughts_0 rfl ?_
  refine g_get X uwX10 0 rfl rfl 2 (by decide) kl_X10_23 rfl rfl gwX10 dX10_draughts_1 ?_
  refine g_iload_n X dX10_draughts_4 rfl ?_
  refine g_callVi X (c_X4_hasClockG V h hk hfw hfg hwb hld hte hpu hnu n m hwa hto c (by omega)) mo_X4_hasClock kl_X10_113 [1] [0, 1] rfl (by decide +kernel) rfl rfl (fun _ => Nat.le_of_ble_eq_true rfl) 1 4 rfl rfl (As := [.int c]) (st := []) (cs' := (0, 0)) rfl rfl rfl rfl dX10_draughts_5 (fun r_5 u_1 hp_2 ws_4 hw_3 => ?_)
  obtain rfl : r_5 = (if okC n c then 1 else 0) := hp_2
  have hw_3x : ws_4 = [(x0, .inr (10, [.ref t, .ref d, .ref h, .ref s, .ref o, .ref p, .ref p2, .ref ru, .ref cu, .ref br, .ref bt])), (h, .inr (4, [.ref hk, .ref hfw, .ref hfg, .ref hwb, .ref hld, .ref hte, .ref hpu, .int (nI n), .int hwa, .int (nI m), .ref hnu, .int hto]))] := hw_3.symm
  clear hw_3; subst hw_3x
  refine g_if_eq X 42 dX10_draughts_8 (by decide) (fun c8_6 => ?_) (fun c8_6 => ?_)
  · refine g_iconst X (-1) dX10_draughts_42 (by decide) ?_
    exact g_iret X E dX10_draughts_43 () (-1) (by first | rfl | (simp [c8_6]; done)) rfl
  · refine g_iload_n X dX10_draughts_11 rfl ?_
    refine g_if_lt X 42 dX10_draughts_12 (by decide) (fun c12_7 => ?_) (fun c12_7 => ?_)
    · have c12_7d := Int32.not_le.mpr c12_7
      refine g_iconst X (-1) dX10_draughts_42 (by decide) ?_
      exact g_iret X E dX10_draughts_43 () (-1) (by first | rfl | (simp [c8_6, c12_7, c12_7d]; done)) rfl
    · have c12_7d := Int32.not_lt.mp c12_7
      refine g_iload_n X dX10_draughts_15 rfl ?_
      refine g_bipush X (6) dX10_draughts_16 (by decide) ?_
      refine g_icmp_gt X 42 dX10_draughts_18 (by decide) (fun c18_8 => ?_) (fun c18_8 => ?_)
      · have c18_8d := Int32.not_le.mpr c18_8
        refine g_iconst X (-1) dX10_draughts_42 (by decide) ?_
        exact g_iret X E dX10_draughts_43 () (-1) (by first | rfl | (simp [c8_6, c12_7, c12_7d, c18_8, c18_8d]; done)) rfl
      · have c18_8d := Int32.not_lt.mp c18_8
        refine g_iload_n X dX10_draughts_21 rfl ?_
        refine g_if_lt X 42 dX10_draughts_22 (by decide) (fun c22_9 => ?_) (fun c22_9 => ?_)
        · have c22_9d := Int32.not_le.mpr c22_9
          refine g_iconst X (-1) dX10_draughts_42 (by decide) ?_
          exact g_iret X E dX10_draughts_43 () (-1) (by first | rfl | (simp [c8_6, c12_7, c12_7d, c18_8, c18_8d, c22_9, c22_9d]; done)) rfl
        · have c22_9d := Int32.not_lt.mp c22_9
          refine g_iload_n X dX10_draughts_25 rfl ?_
          refine g_bipush X (10) dX10_draughts_26 (by decide) ?_
          refine g_icmp_gt X 42 dX10_draughts_28 (by decide) (fun c28_10 => ?_) (fun c28_10 => ?_)
          · have c28_10d := Int32.not_le.mpr c28_10
            refine g_iconst X (-1) dX10_draughts_42 (by decide) ?_
            exact g_iret X E dX10_draughts_43 () (-1) (by first | rfl | (simp [c8_6, c12_7, c12_7d, c18_8, c18_8d, c22_9, c22_9d, c28_10, c28_10d]; done)) rfl
          · have c28_10d := Int32.not_lt.mp c28_10
            refine g_iload X dX10_draughts_31 rfl ?_
            refine g_if_lt X 42 dX10_draughts_33 (by decide) (fun c33_11 => ?_) (fun c33_11 => ?_)
            · have c33_11d := Int32.not_le.mpr c33_11
              refine g_iconst X (-1) dX10_draughts_42 (by decide) ?_
              exact g_iret X E dX10_draughts_43 () (-1) (by first | rfl | (simp [c8_6, c12_7, c12_7d, c18_8, c18_8d, c22_9, c22_9d, c28_10, c28_10d, c33_11, c33_11d]; done)) rfl
            · have c33_11d := Int32.not_lt.mp c33_11
              refine g_iload X dX10_draughts_36 rfl ?_
              refine g_iconst X (1) dX10_draughts_38 (by decide) ?_
              refine g_icmp_le X 44 dX10_draughts_39 (by decide) (fun c39_12 => ?_) (fun c39_12 => ?_)
              · have c39_12d := Int32.not_lt.mpr c39_12
                exact absurd ⟨(by have z := c8_6; by_cases q9 : okC n c; exact q9; rw [if_neg q9] at z; exact absurd rfl z), c12_7, c18_8, c22_9, c28_10, c33_11, c39_12⟩ hbad
              · have c39_12d := Int32.not_le.mp c39_12
                refine g_iconst X (-1) dX10_draughts_42 (by decide) ?_
                exact g_iret X E dX10_draughts_43 () (-1) (by first | rfl | (simp [c8_6, c12_7, c12_7d, c18_8, c18_8d, c22_9, c22_9d, c28_10, c28_10d, c33_11, c33_11d, c39_12, c39_12d]; done)) rfl

set_option maxHeartbeats 4000000 in
set_option maxRecDepth 100000 in
theorem m_draughts_0 (V : gV) (x0 : Nat) (t : Nat) (d : Nat) (h : Nat) (s : Nat) (o : Nat) (p : Nat) (p2 : Nat) (ru : Nat) (cu : Nat) (br : Nat) (bt : Nat) (sw : Nat) (sg : Nat) (day : Int32) (w : Nat → Int32) (g : Nat → Int32) (ow_ : Nat) (og_ : Nat) (oday : Int32) (ow : Nat → Int32) (og : Nat → Int32) (hk : Nat) (hfw : Nat) (hfg : Nat) (hwb : Nat) (hld : Nat) (hte : Nat) (hpu : Nat) (hnu : Nat) (n : Nat) (m : Nat) (hwa : Int32) (hto : Int32) (k : Nat → Int32) (wb : Nat → Int32) (ld : Nat → Nat) (te : Nat → Nat) (pu : Nat → Nat) (c : Nat) (v : Nat) (x : Int32) (hn : n ≤ 7) (h1n : 1 ≤ n) (hm : m ≤ 9) (ht : ∀ i, i < m → te i < n ∧ pu i < n) (hc : c < n) (hv : v ≤ 6) (h1 : ¬ x < 0) (h2 : ¬ 10 < x) : Ki V yX10_draughts cX10_draughts 10 .int ({ frames := 5, cells := 0, slots := 0, locals := 113 }) [.ref x0, .int (nI c), .int (nI v), .int x, .int 0] [(x0, .inr (10, [.ref t, .ref d, .ref h, .ref s, .ref o, .ref p, .ref p2, .ref ru, .ref cu, .ref br, .ref bt])), (s, .inr (8, [.ref h, .ref sw, .ref sg, .int day])), (sw, .inl (V.2.2.1, 7, .inl w)), (sg, .inl (V.2.2.1, 7, .inl g)), (o, .inr (8, [.ref h, .ref ow_, .ref og_, .int oday])), (ow_, .inl (V.2.2.1, 7, .inl ow)), (og_, .inl (V.2.2.1, 7, .inl og)), (h, .inr (4, [.ref hk, .ref hfw, .ref hfg, .ref hwb, .ref hld, .ref hte, .ref hpu, .int (nI n), .int hwa, .int (nI m), .ref hnu, .int hto])), (hk, .inl (V.2.2.1, 7, .inl k)), (hwb, .inl (V.2.2.1, 7, .inl wb)), (hld, .inl (V.2.2.1, 9, .inl (nIf ld))), (hte, .inl (V.2.2.1, 9, .inl (nIf te))), (hpu, .inl (V.2.2.1, 9, .inl (nIf pu)))] (fun (r : Int32) (u : (Nat → Int32) × (Nat → Int32) × Int32) => r = (lowF (aboF k wb ld te pu n m g x day w c v (2 ^ v)) v).1) (fun u => [(x0, .inr (10, [.ref t, .ref d, .ref h, .ref s, .ref o, .ref p, .ref p2, .ref ru, .ref cu, .ref br, .ref bt])), (s, .inr (8, [.ref h, .ref sw, .ref sg, .int day])), (sw, .inl (V.2.2.1, 7, .inl w)), (sg, .inl (V.2.2.1, 7, .inl g)), (o, .inr (8, [.ref h, .ref ow_, .ref og_, .int u.2.2])), (ow_, .inl (V.2.2.1, 7, .inl u.1)), (og_, .inl (V.2.2.1, 7, .inl u.2.1)), (h, .inr (4, [.ref hk, .ref hfw, .ref hfg, .ref hwb, .ref hld, .ref hte, .ref hpu, .int (nI n), .int hwa, .int (nI m), .ref hnu, .int hto])), (hk, .inl (V.2.2.1, 7, .inl k)), (hwb, .inl (V.2.2.1, 7, .inl wb)), (hld, .inl (V.2.2.1, 9, .inl (nIf ld))), (hte, .inl (V.2.2.1, 9, .inl (nIf te))), (hpu, .inl (V.2.2.1, 9, .inl (nIf pu)))]) := by
  refine Ki.of [some (.ref x0), some (.int (nI c)), some (.int (nI v)), some (.int x), some (.int 0), none, none, none, none, none] (by decide) (Nat.le_of_ble_eq_true rfl) rfl rfl ?_
  intro Z X E
  have X : gX V Z RX10 cX10_draughts 10 ({ frames := 5, cells := 0, slots := 0, locals := 113 }) := X
  refine g_aload_n X dX10_draughts_0 rfl ?_
  refine g_get X uwX10 0 rfl rfl 2 (by decide) kl_X10_23 rfl rfl gwX10 dX10_draughts_1 ?_
  refine g_iload_n X dX10_draughts_4 rfl ?_
  refine g_callVi X (c_X4_hasClockG V h hk hfw hfg hwb hld hte hpu hnu n m hwa hto (nI c) (by omega)) mo_X4_hasClock kl_X10_113 [7] [0, 0, 0, 0, 0, 0, 0, 1, 0, 0, 0, 0, 0] rfl (by decide +kernel) rfl rfl (fun _ => Nat.le_of_ble_eq_true rfl) 7 4 rfl rfl (As := [.int (nI c)]) (st := []) (cs' := (0, 0)) rfl rfl rfl rfl dX10_draughts_5 (fun r_5 u_1 hp_2 ws_4 hw_3 => ?_)
  obtain rfl : r_5 = (if okC n (nI c) then 1 else 0) := hp_2
  have hw_3x : ws_4 = [(x0, .inr (10, [.ref t, .ref d, .ref h, .ref s, .ref o, .ref p, .ref p2, .ref ru, .ref cu, .ref br, .ref bt])), (s, .inr (8, [.ref h, .ref sw, .ref sg, .int day])), (sw, .inl (V.2.2.1, 7, .inl w)), (sg, .inl (V.2.2.1, 7, .inl g)), (o, .inr (8, [.ref h, .ref ow_, .ref og_, .int oday])), (ow_, .inl (V.2.2.1, 7, .inl ow)), (og_, .inl (V.2.2.1, 7, .inl og)), (h, .inr (4, [.ref hk, .ref hfw, .ref hfg, .ref hwb, .ref hld, .ref hte, .ref hpu, .int (nI n), .int hwa, .int (nI m), .ref hnu, .int hto])), (hk, .inl (V.2.2.1, 7, .inl k)), (hwb, .inl (V.2.2.1, 7, .inl wb)), (hld, .inl (V.2.2.1, 9, .inl (nIf ld))), (hte, .inl (V.2.2.1, 9, .inl (nIf te))), (hpu, .inl (V.2.2.1, 9, .inl (nIf pu)))] := hw_3.symm
  clear hw_3; subst hw_3x
  refine g_if_eq X 42 dX10_draughts_8 (by decide) (fun c8_6 => absurd c8_6 (by rw [if_pos (okC_nI hc (by omega))]; decide)) (fun c8_6 => ?_)
  refine g_iload_n X dX10_draughts_11 rfl ?_
  refine g_if_lt X 42 dX10_draughts_12 (by decide) (fun c12_7 => absurd c12_7 (flt (a := v) (b := 0) (by omega) (by omega) (by omega))) (fun c12_7 => ?_)
  refine g_iload_n X dX10_draughts_15 rfl ?_
  refine g_bipush X (6) dX10_draughts_16 (by decide) ?_
  refine g_icmp_gt X 42 dX10_draughts_18 (by decide) (fun c18_8 => absurd c18_8 (fgt (a := v) (b := 6) (by omega) (by omega) (by omega))) (fun c18_8 => ?_)
  refine g_iload_n X dX10_draughts_21 rfl ?_
  refine g_if_lt X 42 dX10_draughts_22 (by decide) (fun c22_9 => absurd c22_9 h1) (fun c22_9 => ?_)
  refine g_iload_n X dX10_draughts_25 rfl ?_
  refine g_bipush X (10) dX10_draughts_26 (by decide) ?_
  refine g_icmp_gt X 42 dX10_draughts_28 (by decide) (fun c28_10 => absurd c28_10 h2) (fun c28_10 => ?_)
  refine g_iload X dX10_draughts_31 rfl ?_
  refine g_if_lt X 42 dX10_draughts_33 (by decide) (fun c33_11 => absurd c33_11 (by decide)) (fun c33_11 => ?_)
  refine g_iload X dX10_draughts_36 rfl ?_
  refine g_iconst X (1) dX10_draughts_38 (by decide) ?_
  refine g_icmp_le X 44 dX10_draughts_39 (by decide) (fun c39_12 => ?_) (fun c39_12 => absurd (by decide) c39_12)
  have h64 := pnat hv
  refine g_iconst X (0) dX10_draughts_44 (by decide) ?_
  refine g_istore X (L' := [some (.ref x0), some (.int (nI c)), some (.int (nI v)), some (.int x), some (.int 0), some (.int 0), none, none, none, none]) dX10_draughts_45 (by decide) rfl rfl ?_
  refine g_iconst X (0) dX10_draughts_47 (by decide) ?_
  refine g_istore X (L' := [some (.ref x0), some (.int (nI c)), some (.int (nI v)), some (.int x), some (.int 0), some (.int 0), some (.int 0), none, none, none]) dX10_draughts_48 (by decide) rfl rfl ?_
  have loop50_13 : ∀ (d50 dd : Nat), dd + d50 = 2 ^ v → ∀ (ab : Int32) (tw : Nat → Int32) (tg : Nat → Int32) (td : Int32) (h5 : ab = aboF k wb ld te pu n m g x day w c v dd), G V Z 10 (0, 0) [(x0, .inr (10, [.ref t, .ref d, .ref h, .ref s, .ref o, .ref p, .ref p2, .ref ru, .ref cu, .ref br, .ref bt])), (s, .inr (8, [.ref h, .ref sw, .ref sg, .int day])), (sw, .inl (V.2.2.1, 7, .inl w)), (sg, .inl (V.2.2.1, 7, .inl g)), (o, .inr (8, [.ref h, .ref ow_, .ref og_, .int td])), (ow_, .inl (V.2.2.1, 7, .inl tw)), (og_, .inl (V.2.2.1, 7, .inl tg)), (h, .inr (4, [.ref hk, .ref hfw, .ref hfg, .ref hwb, .ref hld, .ref hte, .ref hpu, .int (nI n), .int hwa, .int (nI m), .ref hnu, .int hto])), (hk, .inl (V.2.2.1, 7, .inl k)), (hwb, .inl (V.2.2.1, 7, .inl wb)), (hld, .inl (V.2.2.1, 9, .inl (nIf ld))), (hte, .inl (V.2.2.1, 9, .inl (nIf te))), (hpu, .inl (V.2.2.1, 9, .inl (nIf pu)))] 50 [some (.ref x0), some (.int (nI c)), some (.int (nI v)), some (.int x), some (.int 0), some (.int ab), some (.int (nI dd)), none, none, none] [] := by
    intro d50
    induction d50 with
    | zero =>
      intro dd hdd ab tw tg td h5
      refine g_iload X dX10_draughts_50 rfl ?_
      refine g_iconst X (1) dX10_draughts_52 (by decide) ?_
      refine g_iload_n X dX10_draughts_53 rfl ?_
      refine g_ishl X dX10_draughts_54 ?_
      refine g_toe (x' := nI (2 ^ v)) (shl2 v (by omega)) ?_
      refine g_icmp_ge X 168 dX10_draughts_55 (by decide) (fun c55_14 => ?_) (fun c55_14 => absurd (tge (a := dd) (b := 2 ^ v) (by omega) (by omega) (by omega)) c55_14)
      refine g_iload X dX10_draughts_168 rfl ?_
      refine g_iload_n X dX10_draughts_170 rfl ?_
      refine g_iload X dX10_draughts_171 rfl ?_
      refine g_callSi X (c_X10_partInLowestTerms V ab v 0 (by omega)) mo_X10_partInLowestTerms kl_X10_234 [] [0, 0, 0, 0, 0, 0, 0, 0, 0, 0, 0, 0, 0] rfl (by decide +kernel) rfl rfl (fun _ => Nat.le_of_ble_eq_true rfl) (As := [.int ab, .int (nI v), .int 0]) (st := []) (cs' := (0, 0)) rfl rfl rfl dX10_draughts_173 (fun r_19 u_15 hp_16 ws_18 hw_17 => ?_)
      obtain rfl : r_19 = (if 0 = 0 then (lowF ab v).1 else (lowF ab v).2) := hp_16
      have hw_17x : ws_18 = [(x0, .inr (10, [.ref t, .ref d, .ref h, .ref s, .ref o, .ref p, .ref p2, .ref ru, .ref cu, .ref br, .ref bt])), (s, .inr (8, [.ref h, .ref sw, .ref sg, .int day])), (sw, .inl (V.2.2.1, 7, .inl w)), (sg, .inl (V.2.2.1, 7, .inl g)), (o, .inr (8, [.ref h, .ref ow_, .ref og_, .int td])), (ow_, .inl (V.2.2.1, 7, .inl tw)), (og_, .inl (V.2.2.1, 7, .inl tg)), (h, .inr (4, [.ref hk, .ref hfw, .ref hfg, .ref hwb, .ref hld, .ref hte, .ref hpu, .int (nI n), .int hwa, .int (nI m), .ref hnu, .int hto])), (hk, .inl (V.2.2.1, 7, .inl k)), (hwb, .inl (V.2.2.1, 7, .inl wb)), (hld, .inl (V.2.2.1, 9, .inl (nIf ld))), (hte, .inl (V.2.2.1, 9, .inl (nIf te))), (hpu, .inl (V.2.2.1, 9, .inl (nIf pu)))] := hw_17.symm
      clear hw_17; subst hw_17x
      exact g_iret X E dX10_draughts_176 ⟨tw, tg, td⟩ (if 0 = 0 then (lowF ab v).1 else (lowF ab v).2) (by have e : dd = 2 ^ v := (by omega); subst e; rw [h5]; simp) rfl
    | succ d50 ih50 =>
      intro dd hdd ab tw tg td h5
      refine g_iload X dX10_draughts_50 rfl ?_
      refine g_iconst X (1) dX10_draughts_52 (by decide) ?_
      refine g_iload_n X dX10_draughts_53 rfl ?_
      refine g_ishl X dX10_draughts_54 ?_
      refine g_toe (x' := nI (2 ^ v)) (shl2 v (by omega)) ?_
      refine g_icmp_ge X 168 dX10_draughts_55 (by decide) (fun c55_20 => absurd c55_20 (fge (a := dd) (b := 2 ^ v) (by omega) (by omega) (by omega))) (fun c55_20 => ?_)
      refine g_aload_n X dX10_draughts_58 rfl ?_
      refine g_get X uwX10 0 rfl rfl 4 (by decide) kl_X10_35 rfl rfl gwX10 dX10_draughts_59 ?_
      refine g_aload_n X dX10_draughts_62 rfl ?_
      refine g_get X uwX10 0 rfl rfl 3 (by decide) kl_X10_31 rfl rfl gwX10 dX10_draughts_63 ?_
      refine g_callVv X (c_X8_takeFrom V o ow_ og_ td tw tg h s sw sg h day w g) mo_X8_takeFrom kl_X10_166 [4, 5, 6, 1, 2, 3] [0, 4, 5, 6, 1, 2, 3, 0, 0, 0, 0, 0, 0] rfl (by decide +kernel) rfl rfl (fun _ => Nat.le_of_ble_eq_true rfl) 4 8 rfl rfl (As := [.ref s]) (st := []) (cs' := (0, 0)) rfl rfl rfl rfl dX10_draughts_66 (fun u_21 hp_22 ws_24 hw_23 => ?_)
      have hw_23x : ws_24 = [(x0, .inr (10, [.ref t, .ref d, .ref h, .ref s, .ref o, .ref p, .ref p2, .ref ru, .ref cu, .ref br, .ref bt])), (s, .inr (8, [.ref h, .ref sw, .ref sg, .int day])), (sw, .inl (V.2.2.1, 7, .inl w)), (sg, .inl (V.2.2.1, 7, .inl g)), (o, .inr (8, [.ref h, .ref ow_, .ref og_, .int day])), (ow_, .inl (V.2.2.1, 7, .inl w)), (og_, .inl (V.2.2.1, 7, .inl g)), (h, .inr (4, [.ref hk, .ref hfw, .ref hfg, .ref hwb, .ref hld, .ref hte, .ref hpu, .int (nI n), .int hwa, .int (nI m), .ref hnu, .int hto])), (hk, .inl (V.2.2.1, 7, .inl k)), (hwb, .inl (V.2.2.1, 7, .inl wb)), (hld, .inl (V.2.2.1, 9, .inl (nIf ld))), (hte, .inl (V.2.2.1, 9, .inl (nIf te))), (hpu, .inl (V.2.2.1, 9, .inl (nIf pu)))] := hw_23.symm
      clear hw_23; subst hw_23x
      refine g_iconst X (1) dX10_draughts_69 (by decide) ?_
      refine g_istore X (L' := [some (.ref x0), some (.int (nI c)), some (.int (nI v)), some (.int x), some (.int 0), some (.int ab), some (.int (nI dd)), some (.int 1), none, none]) dX10_draughts_70 (by decide) rfl rfl ?_
      refine g_iconst X (0) dX10_draughts_72 (by decide) ?_
      refine g_istore X (L' := [some (.ref x0), some (.int (nI c)), some (.int (nI v)), some (.int x), some (.int 0), some (.int ab), some (.int (nI dd)), some (.int 1), some (.int 0), none]) dX10_draughts_73 (by decide) rfl rfl ?_
      have loop75_26 : ∀ (d75 i : Nat), i + d75 = v → ∀ (wt : Int32) (w1 : Nat → Int32) (dy : Int32) (h6 : (wt, w1) = it (draS k wb ld te pu n m g x day dd) i (1, w)) (h7 : dy = day + nI i), G V Z 10 (0, 0) [(x0, .inr (10, [.ref t, .ref d, .ref h, .ref s, .ref o, .ref p, .ref p2, .ref ru, .ref cu, .ref br, .ref bt])), (s, .inr (8, [.ref h, .ref sw, .ref sg, .int day])), (sw, .inl (V.2.2.1, 7, .inl w)), (sg, .inl (V.2.2.1, 7, .inl g)), (o, .inr (8, [.ref h, .ref ow_, .ref og_, .int dy])), (ow_, .inl (V.2.2.1, 7, .inl w1)), (og_, .inl (V.2.2.1, 7, .inl g)), (h, .inr (4, [.ref hk, .ref hfw, .ref hfg, .ref hwb, .ref hld, .ref hte, .ref hpu, .int (nI n), .int hwa, .int (nI m), .ref hnu, .int hto])), (hk, .inl (V.2.2.1, 7, .inl k)), (hwb, .inl (V.2.2.1, 7, .inl wb)), (hld, .inl (V.2.2.1, 9, .inl (nIf ld))), (hte, .inl (V.2.2.1, 9, .inl (nIf te))), (hpu, .inl (V.2.2.1, 9, .inl (nIf pu)))] 75 [some (.ref x0), some (.int (nI c)), some (.int (nI v)), some (.int x), some (.int 0), some (.int ab), some (.int (nI dd)), some (.int wt), some (.int (nI i)), none] [] := by
        intro d75
        induction d75 with
        | zero =>
          intro i hi wt w1 dy h6 h7
          refine g_iload X dX10_draughts_75 rfl ?_
          refine g_iload_n X dX10_draughts_77 rfl ?_
          refine g_icmp_ge X 140 dX10_draughts_78 (by decide) (fun c78_27 => ?_) (fun c78_27 => absurd (tge (a := i) (b := v) (by omega) (by omega) (by omega)) c78_27)
          refine g_iload X dX10_draughts_140 rfl ?_
          refine g_aload_n X dX10_draughts_142 rfl ?_
          refine g_get X uwX10 0 rfl rfl 4 (by decide) kl_X10_35 rfl rfl gwX10 dX10_draughts_143 ?_
          refine g_iload_n X dX10_draughts_146 rfl ?_
          refine g_callVi X (c_X8_wrongOf V o ow_ og_ dy w1 h c (by omega)) mo_X8_wrongOf kl_X10_121 [4, 5] [0, 0, 0, 0, 1, 2, 0, 0, 0, 0, 0, 0, 0] rfl (by decide +kernel) rfl rfl (fun _ => Nat.le_of_ble_eq_true rfl) 4 8 rfl rfl (As := [.int (nI c)]) (st := [.int ab]) (cs' := (0, 0)) rfl rfl rfl rfl dX10_draughts_147 (fun r_32 u_28 hp_29 ws_31 hw_30 => ?_)
          obtain rfl : r_32 = w1 c := hp_29
          have hw_30x : ws_31 = [(x0, .inr (10, [.ref t, .ref d, .ref h, .ref s, .ref o, .ref p, .ref p2, .ref ru, .ref cu, .ref br, .ref bt])), (s, .inr (8, [.ref h, .ref sw, .ref sg, .int day])), (sw, .inl (V.2.2.1, 7, .inl w)), (sg, .inl (V.2.2.1, 7, .inl g)), (o, .inr (8, [.ref h, .ref ow_, .ref og_, .int dy])), (ow_, .inl (V.2.2.1, 7, .inl w1)), (og_, .inl (V.2.2.1, 7, .inl g)), (h, .inr (4, [.ref hk, .ref hfw, .ref hfg, .ref hwb, .ref hld, .ref hte, .ref hpu, .int (nI n), .int hwa, .int (nI m), .ref hnu, .int hto])), (hk, .inl (V.2.2.1, 7, .inl k)), (hwb, .inl (V.2.2.1, 7, .inl wb)), (hld, .inl (V.2.2.1, 9, .inl (nIf ld))), (hte, .inl (V.2.2.1, 9, .inl (nIf te))), (hpu, .inl (V.2.2.1, 9, .inl (nIf pu)))] := hw_30.symm
          clear hw_30; subst hw_30x
          refine g_if_ne X 158 dX10_draughts_150 (by decide) (fun c150_33 => ?_) (fun c150_33 => ?_)
          · refine g_iconst X (0) dX10_draughts_158 (by decide) ?_
            refine g_iadd X dX10_draughts_159 ?_
            refine g_istore X (L' := [some (.ref x0), some (.int (nI c)), some (.int (nI v)), some (.int x), some (.int 0), some (.int (ab + 0)), some (.int (nI dd)), some (.int wt), some (.int (nI i)), none]) dX10_draughts_160 (by decide) rfl rfl ?_
            refine g_iinc X (v := nI (dd + 1)) (L' := [some (.ref x0), some (.int (nI c)), some (.int (nI v)), some (.int x), some (.int 0), some (.int (ab + 0)), some (.int (nI (dd + 1))), some (.int wt), some (.int (nI i)), none]) dX10_draughts_162 rfl (nI_addk (by decide)) (by decide) rfl rfl ?_
            refine g_goto X 50 dX10_draughts_165 (by decide) ?_
            refine g_sub (L' := [some (.ref x0), some (.int (nI c)), some (.int (nI v)), some (.int x), some (.int 0), some (.int (ab + 0)), some (.int (nI (dd + 1))), none, none, none]) ⟨rfl, ⟨rfl, ⟨rfl, ⟨rfl, ⟨rfl, ⟨rfl, ⟨rfl, trivial⟩⟩⟩⟩⟩⟩⟩ ?_
            exact ih50 (dd + 1) (by omega) (ab + 0) w1 g dy (by have e : i = v := (by omega); subst e; rw [aboF, it_s, ← aboF, ← h5, draF, ← h6]; simp [c150_33])
          · refine g_iload X dX10_draughts_153 rfl ?_
            refine g_goto X 159 dX10_draughts_155 (by decide) ?_
            refine g_iadd X dX10_draughts_159 ?_
            refine g_istore X (L' := [some (.ref x0), some (.int (nI c)), some (.int (nI v)), some (.int x), some (.int 0), some (.int (ab + wt)), some (.int (nI dd)), some (.int wt), some (.int (nI i)), none]) dX10_draughts_160 (by decide) rfl rfl ?_
            refine g_iinc X (v := nI (dd + 1)) (L' := [some (.ref x0), some (.int (nI c)), some (.int (nI v)), some (.int x), some (.int 0), some (.int (ab + wt)), some (.int (nI (dd + 1))), some (.int wt), some (.int (nI i)), none]) dX10_draughts_162 rfl (nI_addk (by decide)) (by decide) rfl rfl ?_
            refine g_goto X 50 dX10_draughts_165 (by decide) ?_
            refine g_sub (L' := [some (.ref x0), some (.int (nI c)), some (.int (nI v)), some (.int x), some (.int 0), some (.int (ab + wt)), some (.int (nI (dd + 1))), none, none, none]) ⟨rfl, ⟨rfl, ⟨rfl, ⟨rfl, ⟨rfl, ⟨rfl, ⟨rfl, trivial⟩⟩⟩⟩⟩⟩⟩ ?_
            exact ih50 (dd + 1) (by omega) (ab + wt) w1 g dy (by have e : i = v := (by omega); subst e; rw [aboF, it_s, ← aboF, ← h5, draF, ← h6]; simp [c150_33])
        | succ d75 ih75 =>
          intro i hi wt w1 dy h6 h7
          refine g_iload X dX10_draughts_75 rfl ?_
          refine g_iload_n X dX10_draughts_77 rfl ?_
          refine g_icmp_ge X 140 dX10_draughts_78 (by decide) (fun c78_34 => absurd c78_34 (fge (a := i) (b := v) (by omega) (by omega) (by omega))) (fun c78_34 => ?_)
          refine g_iload X dX10_draughts_81 rfl ?_
          refine g_iload X dX10_draughts_83 rfl ?_
          refine g_ishr X dX10_draughts_85 ?_
          refine g_iconst X (1) dX10_draughts_86 (by decide) ?_
          refine g_iand X dX10_draughts_87 ?_
          refine g_iconst X (1) dX10_draughts_88 (by decide) ?_
          refine g_icmp_ne X 96 dX10_draughts_89 (by decide) (fun c89_35 => ?_) (fun c89_35 => ?_)
          · refine g_iconst X (0) dX10_draughts_96 (by decide) ?_
            refine g_istore X (L' := [some (.ref x0), some (.int (nI c)), some (.int (nI v)), some (.int x), some (.int 0), some (.int ab), some (.int (nI dd)), some (.int wt), some (.int (nI i)), some (.int 0)]) dX10_draughts_97 (by decide) rfl rfl ?_
            refine g_iload X dX10_draughts_99 rfl ?_
            refine g_iload X dX10_draughts_101 rfl ?_
            refine g_if_eq X 110 dX10_draughts_103 (by decide) (fun c103_36 => ?_) (fun c103_36 => absurd (by decide) c103_36)
            refine g_bipush X (10) dX10_draughts_110 (by decide) ?_
            refine g_iload_n X dX10_draughts_112 rfl ?_
            refine g_isub X dX10_draughts_113 ?_
            refine g_imul X dX10_draughts_114 ?_
            refine g_istore X (L' := [some (.ref x0), some (.int (nI c)), some (.int (nI v)), some (.int x), some (.int 0), some (.int ab), some (.int (nI dd)), some (.int (wt * (10 - x))), some (.int (nI i)), some (.int 0)]) dX10_draughts_115 (by decide) rfl rfl ?_
            refine g_aload_n X dX10_draughts_117 rfl ?_
            refine g_get X uwX10 0 rfl rfl 4 (by decide) kl_X10_35 rfl rfl gwX10 dX10_draughts_118 ?_
            refine g_iload X dX10_draughts_121 rfl ?_
            refine g_if_ne X 130 dX10_draughts_123 (by decide) (fun c123_37 => absurd (by decide) c123_37) (fun c123_37 => ?_)
            refine g_iconst X (1) dX10_draughts_126 (by decide) ?_
            refine g_goto X 131 dX10_draughts_127 (by decide) ?_
            refine g_callVv X (c_X8_passDay V o ow_ og_ dy w1 g h hk hfw hfg hwb hld hte hpu hnu n m hwa hto k wb ld te pu 1 (by omega) (by omega) ht) mo_X8_passDay kl_X10_230 [4, 5, 6, 7, 8, 9, 10, 11, 12] [0, 0, 0, 0, 1, 2, 3, 4, 5, 6, 7, 8, 9] rfl (by decide +kernel) rfl rfl (fun _ => Nat.le_of_ble_eq_true rfl) 4 8 rfl rfl (As := [.int 1]) (st := []) (cs' := (0, 0)) rfl rfl rfl rfl dX10_draughts_131 (fun nw_38 hp_39 ws_41 hw_40 => ?_)
            obtain rfl : nw_38 = dayF k wb ld te pu n m g 1 dy w1 := hp_39
            have hw_40x : ws_41 = [(x0, .inr (10, [.ref t, .ref d, .ref h, .ref s, .ref o, .ref p, .ref p2, .ref ru, .ref cu, .ref br, .ref bt])), (s, .inr (8, [.ref h, .ref sw, .ref sg, .int day])), (sw, .inl (V.2.2.1, 7, .inl w)), (sg, .inl (V.2.2.1, 7, .inl g)), (o, .inr (8, [.ref h, .ref ow_, .ref og_, .int (dy + 1)])), (ow_, .inl (V.2.2.1, 7, .inl (dayF k wb ld te pu n m g 1 dy w1))), (og_, .inl (V.2.2.1, 7, .inl g)), (h, .inr (4, [.ref hk, .ref hfw, .ref hfg, .ref hwb, .ref hld, .ref hte, .ref hpu, .int (nI n), .int hwa, .int (nI m), .ref hnu, .int hto])), (hk, .inl (V.2.2.1, 7, .inl k)), (hwb, .inl (V.2.2.1, 7, .inl wb)), (hld, .inl (V.2.2.1, 9, .inl (nIf ld))), (hte, .inl (V.2.2.1, 9, .inl (nIf te))), (hpu, .inl (V.2.2.1, 9, .inl (nIf pu)))] := hw_40.symm
            clear hw_40; subst hw_40x
            refine g_iinc X (v := nI (i + 1)) (L' := [some (.ref x0), some (.int (nI c)), some (.int (nI v)), some (.int x), some (.int 0), some (.int ab), some (.int (nI dd)), some (.int (wt * (10 - x))), some (.int (nI (i + 1))), some (.int 0)]) dX10_draughts_134 rfl (nI_addk (by decide)) (by decide) rfl rfl ?_
            refine g_goto X 75 dX10_draughts_137 (by decide) ?_
            refine g_sub (L' := [some (.ref x0), some (.int (nI c)), some (.int (nI v)), some (.int x), some (.int 0), some (.int ab), some (.int (nI dd)), some (.int (wt * (10 - x))), some (.int (nI (i + 1))), none]) ⟨rfl, ⟨rfl, ⟨rfl, ⟨rfl, ⟨rfl, ⟨rfl, ⟨rfl, ⟨rfl, ⟨rfl, trivial⟩⟩⟩⟩⟩⟩⟩⟩⟩ ?_
            exact ih75 (i + 1) (by omega) (wt * (10 - x)) (dayF k wb ld te pu n m g 1 dy w1) (dy + 1) (by rw [it_s, ← h6, draS, hasF, h7]; simp [c89_35]) (by rw [h7, Int32.add_assoc, nI_1])
          · refine g_iconst X (1) dX10_draughts_92 (by decide) ?_
            refine g_goto X 97 dX10_draughts_93 (by decide) ?_
            refine g_istore X (L' := [some (.ref x0), some (.int (nI c)), some (.int (nI v)), some (.int x), some (.int 0), some (.int ab), some (.int (nI dd)), some (.int wt), some (.int (nI i)), some (.int 1)]) dX10_draughts_97 (by decide) rfl rfl ?_
            refine g_iload X dX10_draughts_99 rfl ?_
            refine g_iload X dX10_draughts_101 rfl ?_
            refine g_if_eq X 110 dX10_draughts_103 (by decide) (fun c103_43 => absurd c103_43 (by decide)) (fun c103_43 => ?_)
            refine g_iload_n X dX10_draughts_106 rfl ?_
            refine g_goto X 114 dX10_draughts_107 (by decide) ?_
            refine g_imul X dX10_draughts_114 ?_
            refine g_istore X (L' := [some (.ref x0), some (.int (nI c)), some (.int (nI v)), some (.int x), some (.int 0), some (.int ab), some (.int (nI dd)), some (.int (wt * x)), some (.int (nI i)), some (.int 1)]) dX10_draughts_115 (by decide) rfl rfl ?_
            refine g_aload_n X dX10_draughts_117 rfl ?_
            refine g_get X uwX10 0 rfl rfl 4 (by decide) kl_X10_35 rfl rfl gwX10 dX10_draughts_118 ?_
            refine g_iload X dX10_draughts_121 rfl ?_
            refine g_if_ne X 130 dX10_draughts_123 (by decide) (fun c123_44 => ?_) (fun c123_44 => absurd c123_44 (by decide))
            refine g_iconst X (0) dX10_draughts_130 (by decide) ?_
            refine g_callVv X (c_X8_passDay V o ow_ og_ dy w1 g h hk hfw hfg hwb hld hte hpu hnu n m hwa hto k wb ld te pu 0 (by omega) (by omega) ht) mo_X8_passDay kl_X10_230 [4, 5, 6, 7, 8, 9, 10, 11, 12] [0, 0, 0, 0, 1, 2, 3, 4, 5, 6, 7, 8, 9] rfl (by decide +kernel) rfl rfl (fun _ => Nat.le_of_ble_eq_true rfl) 4 8 rfl rfl (As := [.int 0]) (st := []) (cs' := (0, 0)) rfl rfl rfl rfl dX10_draughts_131 (fun nw_45 hp_46 ws_48 hw_47 => ?_)
            obtain rfl : nw_45 = dayF k wb ld te pu n m g 0 dy w1 := hp_46
            have hw_47x : ws_48 = [(x0, .inr (10, [.ref t, .ref d, .ref h, .ref s, .ref o, .ref p, .ref p2, .ref ru, .ref cu, .ref br, .ref bt])), (s, .inr (8, [.ref h, .ref sw, .ref sg, .int day])), (sw, .inl (V.2.2.1, 7, .inl w)), (sg, .inl (V.2.2.1, 7, .inl g)), (o, .inr (8, [.ref h, .ref ow_, .ref og_, .int (dy + 1)])), (ow_, .inl (V.2.2.1, 7, .inl (dayF k wb ld te pu n m g 0 dy w1))), (og_, .inl (V.2.2.1, 7, .inl g)), (h, .inr (4, [.ref hk, .ref hfw, .ref hfg, .ref hwb, .ref hld, .ref hte, .ref hpu, .int (nI n), .int hwa, .int (nI m), .ref hnu, .int hto])), (hk, .inl (V.2.2.1, 7, .inl k)), (hwb, .inl (V.2.2.1, 7, .inl wb)), (hld, .inl (V.2.2.1, 9, .inl (nIf ld))), (hte, .inl (V.2.2.1, 9, .inl (nIf te))), (hpu, .inl (V.2.2.1, 9, .inl (nIf pu)))] := hw_47.symm
            clear hw_47; subst hw_47x
            refine g_iinc X (v := nI (i + 1)) (L' := [some (.ref x0), some (.int (nI c)), some (.int (nI v)), some (.int x), some (.int 0), some (.int ab), some (.int (nI dd)), some (.int (wt * x)), some (.int (nI (i + 1))), some (.int 1)]) dX10_draughts_134 rfl (nI_addk (by decide)) (by decide) rfl rfl ?_
            refine g_goto X 75 dX10_draughts_137 (by decide) ?_
            refine g_sub (L' := [some (.ref x0), some (.int (nI c)), some (.int (nI v)), some (.int x), some (.int 0), some (.int ab), some (.int (nI dd)), some (.int (wt * x)), some (.int (nI (i + 1))), none]) ⟨rfl, ⟨rfl, ⟨rfl, ⟨rfl, ⟨rfl, ⟨rfl, ⟨rfl, ⟨rfl, ⟨rfl, trivial⟩⟩⟩⟩⟩⟩⟩⟩⟩ ?_
            exact ih75 (i + 1) (by omega) (wt * x) (dayF k wb ld te pu n m g 0 dy w1) (dy + 1) (by rw [it_s, ← h6, draS, hasF, h7]; simp [c89_35]) (by rw [h7, Int32.add_assoc, nI_1])
      exact loop75_26 v 0 (by omega) 1 w day rfl (by rw [nI_0, Int32.add_zero])
  exact loop50_13 (2 ^ v) 0 (by omega) 0 ow og oday rfl

set_option maxHeartbeats 4000000 in
set_option maxRecDepth 100000 in
theorem m_draughts_1 (V : gV) (x0 : Nat) (t : Nat) (d : Nat) (h : Nat) (s : Nat) (o : Nat) (p : Nat) (p2 : Nat) (ru : Nat) (cu : Nat) (br : Nat) (bt : Nat) (sw : Nat) (sg : Nat) (day : Int32) (w : Nat → Int32) (g : Nat → Int32) (ow_ : Nat) (og_ : Nat) (oday : Int32) (ow : Nat → Int32) (og : Nat → Int32) (hk : Nat) (hfw : Nat) (hfg : Nat) (hwb : Nat) (hld : Nat) (hte : Nat) (hpu : Nat) (hnu : Nat) (n : Nat) (m : Nat) (hwa : Int32) (hto : Int32) (k : Nat → Int32) (wb : Nat → Int32) (ld : Nat → Nat) (te : Nat → Nat) (pu : Nat → Nat) (c : Nat) (v : Nat) (x : Int32) (hn : n ≤ 7) (h1n : 1 ≤ n) (hm : m ≤ 9) (ht : ∀ i, i < m → te i < n ∧ pu i < n) (hc : c < n) (hv : v ≤ 6) (h1 : ¬ x < 0) (h2 : ¬ 10 < x) : Ki V yX10_draughts cX10_draughts 10 .int ({ frames := 5, cells := 0, slots := 0, locals := 113 }) [.ref x0, .int (nI c), .int (nI v), .int x, .int 1] [(x0, .inr (10, [.ref t, .ref d, .ref h, .ref s, .ref o, .ref p, .ref p2, .ref ru, .ref cu, .ref br, .ref bt])), (s, .inr (8, [.ref h, .ref sw, .ref sg, .int day])), (sw, .inl (V.2.2.1, 7, .inl w)), (sg, .inl (V.2.2.1, 7, .inl g)), (o, .inr (8, [.ref h, .ref ow_, .ref og_, .int oday])), (ow_, .inl (V.2.2.1, 7, .inl ow)), (og_, .inl (V.2.2.1, 7, .inl og)), (h, .inr (4, [.ref hk, .ref hfw, .ref hfg, .ref hwb, .ref hld, .ref hte, .ref hpu, .int (nI n), .int hwa, .int (nI m), .ref hnu, .int hto])), (hk, .inl (V.2.2.1, 7, .inl k)), (hwb, .inl (V.2.2.1, 7, .inl wb)), (hld, .inl (V.2.2.1, 9, .inl (nIf ld))), (hte, .inl (V.2.2.1, 9, .inl (nIf te))), (hpu, .inl (V.2.2.1, 9, .inl (nIf pu)))] (fun (r : Int32) (u : (Nat → Int32) × (Nat → Int32) × Int32) => r = (lowF (aboF k wb ld te pu n m g x day w c v (2 ^ v)) v).2) (fun u => [(x0, .inr (10, [.ref t, .ref d, .ref h, .ref s, .ref o, .ref p, .ref p2, .ref ru, .ref cu, .ref br, .ref bt])), (s, .inr (8, [.ref h, .ref sw, .ref sg, .int day])), (sw, .inl (V.2.2.1, 7, .inl w)), (sg, .inl (V.2.2.1, 7, .inl g)), (o, .inr (8, [.ref h, .ref ow_, .ref og_, .int u.2.2])), (ow_, .inl (V.2.2.1, 7, .inl u.1)), (og_, .inl (V.2.2.1, 7, .inl u.2.1)), (h, .inr (4, [.ref hk, .ref hfw, .ref hfg, .ref hwb, .ref hld, .ref hte, .ref hpu, .int (nI n), .int hwa, .int (nI m), .ref hnu, .int hto])), (hk, .inl (V.2.2.1, 7, .inl k)), (hwb, .inl (V.2.2.1, 7, .inl wb)), (hld, .inl (V.2.2.1, 9, .inl (nIf ld))), (hte, .inl (V.2.2.1, 9, .inl (nIf te))), (hpu, .inl (V.2.2.1, 9, .inl (nIf pu)))]) := by
  refine Ki.of [some (.ref x0), some (.int (nI c)), some (.int (nI v)), some (.int x), some (.int 1), none, none, none, none, none] (by decide) (Nat.le_of_ble_eq_true rfl) rfl rfl ?_
  intro Z X E
  have X : gX V Z RX10 cX10_draughts 10 ({ frames := 5, cells := 0, slots := 0, locals := 113 }) := X
  refine g_aload_n X dX10_draughts_0 rfl ?_
  refine g_get X uwX10 0 rfl rfl 2 (by decide) kl_X10_23 rfl rfl gwX10 dX10_draughts_1 ?_
  refine g_iload_n X dX10_draughts_4 rfl ?_
  refine g_callVi X (c_X4_hasClockG V h hk hfw hfg hwb hld hte hpu hnu n m hwa hto (nI c) (by omega)) mo_X4_hasClock kl_X10_113 [7] [0, 0, 0, 0, 0, 0, 0, 1, 0, 0, 0, 0, 0] rfl (by decide +kernel) rfl rfl (fun _ => Nat.le_of_ble_eq_true rfl) 7 4 rfl rfl (As := [.int (nI c)]) (st := []) (cs' := (0, 0)) rfl rfl rfl rfl dX10_draughts_5 (fun r_5 u_1 hp_2 ws_4 hw_3 => ?_)
  obtain rfl : r_5 = (if okC n (nI c) then 1 else 0) := hp_2
  have hw_3x : ws_4 = [(x0, .inr (10, [.ref t, .ref d, .ref h, .ref s, .ref o, .ref p, .ref p2, .ref ru, .ref cu, .ref br, .ref bt])), (s, .inr (8, [.ref h, .ref sw, .ref sg, .int day])), (sw, .inl (V.2.2.1, 7, .inl w)), (sg, .inl (V.2.2.1, 7, .inl g)), (o, .inr (8, [.ref h, .ref ow_, .ref og_, .int oday])), (ow_, .inl (V.2.2.1, 7, .inl ow)), (og_, .inl (V.2.2.1, 7, .inl og)), (h, .inr (4, [.ref hk, .ref hfw, .ref hfg, .ref hwb, .ref hld, .ref hte, .ref hpu, .int (nI n), .int hwa, .int (nI m), .ref hnu, .int hto])), (hk, .inl (V.2.2.1, 7, .inl k)), (hwb, .inl (V.2.2.1, 7, .inl wb)), (hld, .inl (V.2.2.1, 9, .inl (nIf ld))), (hte, .inl (V.2.2.1, 9, .inl (nIf te))), (hpu, .inl (V.2.2.1, 9, .inl (nIf pu)))] := hw_3.symm
  clear hw_3; subst hw_3x
  refine g_if_eq X 42 dX10_draughts_8 (by decide) (fun c8_6 => absurd c8_6 (by rw [if_pos (okC_nI hc (by omega))]; decide)) (fun c8_6 => ?_)
  refine g_iload_n X dX10_draughts_11 rfl ?_
  refine g_if_lt X 42 dX10_draughts_12 (by decide) (fun c12_7 => absurd c12_7 (flt (a := v) (b := 0) (by omega) (by omega) (by omega))) (fun c12_7 => ?_)
  refine g_iload_n X dX10_draughts_15 rfl ?_
  refine g_bipush X (6) dX10_draughts_16 (by decide) ?_
  refine g_icmp_gt X 42 dX10_draughts_18 (by decide) (fun c18_8 => absurd c18_8 (fgt (a := v) (b := 6) (by omega) (by omega) (by omega))) (fun c18_8 => ?_)
  refine g_iload_n X dX10_draughts_21 rfl ?_
  refine g_if_lt X 42 dX10_draughts_22 (by decide) (fun c22_9 => absurd c22_9 h1) (fun c22_9 => ?_)
  refine g_iload_n X dX10_draughts_25 rfl ?_
  refine g_bipush X (10) dX10_draughts_26 (by decide) ?_
  refine g_icmp_gt X 42 dX10_draughts_28 (by decide) (fun c28_10 => absurd c28_10 h2) (fun c28_10 => ?_)
  refine g_iload X dX10_draughts_31 rfl ?_
  refine g_if_lt X 42 dX10_draughts_33 (by decide) (fun c33_11 => absurd c33_11 (by decide)) (fun c33_11 => ?_)
  refine g_iload X dX10_draughts_36 rfl ?_
  refine g_iconst X (1) dX10_draughts_38 (by decide) ?_
  refine g_icmp_le X 44 dX10_draughts_39 (by decide) (fun c39_12 => ?_) (fun c39_12 => absurd (by decide) c39_12)
  have h64 := pnat hv
  refine g_iconst X (0) dX10_draughts_44 (by decide) ?_
  refine g_istore X (L' := [some (.ref x0), some (.int (nI c)), some (.int (nI v)), some (.int x), some (.int 1), some (.int 0), none, none, none, none]) dX10_draughts_45 (by decide) rfl rfl ?_
  refine g_iconst X (0) dX10_draughts_47 (by decide) ?_
  refine g_istore X (L' := [some (.ref x0), some (.int (nI c)), some (.int (nI v)), some (.int x), some (.int 1), some (.int 0), some (.int 0), none, none, none]) dX10_draughts_48 (by decide) rfl rfl ?_
  have loop50_13 : ∀ (d50 dd : Nat), dd + d50 = 2 ^ v → ∀ (ab : Int32) (tw : Nat → Int32) (tg : Nat → Int32) (td : Int32) (h5 : ab = aboF k wb ld te pu n m g x day w c v dd), G V Z 10 (0, 0) [(x0, .inr (10, [.ref t, .ref d, .ref h, .ref s, .ref o, .ref p, .ref p2, .ref ru, .ref cu, .ref br, .ref bt])), (s, .inr (8, [.ref h, .ref sw, .ref sg, .int day])), (sw, .inl (V.2.2.1, 7, .inl w)), (sg, .inl (V.2.2.1, 7, .inl g)), (o, .inr (8, [.ref h, .ref ow_, .ref og_, .int td])), (ow_, .inl (V.2.2.1, 7, .inl tw)), (og_, .inl (V.2.2.1, 7, .inl tg)), (h, .inr (4, [.ref hk, .ref hfw, .ref hfg, .ref hwb, .ref hld, .ref hte, .ref hpu, .int (nI n), .int hwa, .int (nI m), .ref hnu, .int hto])), (hk, .inl (V.2.2.1, 7, .inl k)), (hwb, .inl (V.2.2.1, 7, .inl wb)), (hld, .inl (V.2.2.1, 9, .inl (nIf ld))), (hte, .inl (V.2.2.1, 9, .inl (nIf te))), (hpu, .inl (V.2.2.1, 9, .inl (nIf pu)))] 50 [some (.ref x0), some (.int (nI c)), some (.int (nI v)), some (.int x), some (.int 1), some (.int ab), some (.int (nI dd)), none, none, none] [] := by
    intro d50
    induction d50 with
    | zero =>
      intro dd hdd ab tw tg td h5
      refine g_iload X dX10_draughts_50 rfl ?_
      refine g_iconst X (1) dX10_draughts_52 (by decide) ?_
      refine g_iload_n X dX10_draughts_53 rfl ?_
      refine g_ishl X dX10_draughts_54 ?_
      refine g_toe (x' := nI (2 ^ v)) (shl2 v (by omega)) ?_
      refine g_icmp_ge X 168 dX10_draughts_55 (by decide) (fun c55_14 => ?_) (fun c55_14 => absurd (tge (a := dd) (b := 2 ^ v) (by omega) (by omega) (by omega)) c55_14)
      refine g_iload X dX10_draughts_168 rfl ?_
      refine g_iload_n X dX10_draughts_170 rfl ?_
      refine g_iload X dX10_draughts_171 rfl ?_
      refine g_callSi X (c_X10_partInLowestTerms V ab v 1 (by omega)) mo_X10_partInLowestTerms kl_X10_234 [] [0, 0, 0, 0, 0, 0, 0, 0, 0, 0, 0, 0, 0] rfl (by decide +kernel) rfl rfl (fun _ => Nat.le_of_ble_eq_true rfl) (As := [.int ab, .int (nI v), .int 1]) (st := []) (cs' := (0, 0)) rfl rfl rfl dX10_draughts_173 (fun r_19 u_15 hp_16 ws_18 hw_17 => ?_)
      obtain rfl : r_19 = (if 1 = 0 then (lowF ab v).1 else (lowF ab v).2) := hp_16
      have hw_17x : ws_18 = [(x0, .inr (10, [.ref t, .ref d, .ref h, .ref s, .ref o, .ref p, .ref p2, .ref ru, .ref cu, .ref br, .ref bt])), (s, .inr (8, [.ref h, .ref sw, .ref sg, .int day])), (sw, .inl (V.2.2.1, 7, .inl w)), (sg, .inl (V.2.2.1, 7, .inl g)), (o, .inr (8, [.ref h, .ref ow_, .ref og_, .int td])), (ow_, .inl (V.2.2.1, 7, .inl tw)), (og_, .inl (V.2.2.1, 7, .inl tg)), (h, .inr (4, [.ref hk, .ref hfw, .ref hfg, .ref hwb, .ref hld, .ref hte, .ref hpu, .int (nI n), .int hwa, .int (nI m), .ref hnu, .int hto])), (hk, .inl (V.2.2.1, 7, .inl k)), (hwb, .inl (V.2.2.1, 7, .inl wb)), (hld, .inl (V.2.2.1, 9, .inl (nIf ld))), (hte, .inl (V.2.2.1, 9, .inl (nIf te))), (hpu, .inl (V.2.2.1, 9, .inl (nIf pu)))] := hw_17.symm
      clear hw_17; subst hw_17x
      exact g_iret X E dX10_draughts_176 ⟨tw, tg, td⟩ (if 1 = 0 then (lowF ab v).1 else (lowF ab v).2) (by have e : dd = 2 ^ v := (by omega); subst e; rw [h5]; simp) rfl
    | succ d50 ih50 =>
      intro dd hdd ab tw tg td h5
      refine g_iload X dX10_draughts_50 rfl ?_
      refine g_iconst X (1) dX10_draughts_52 (by decide) ?_
      refine g_iload_n X dX10_draughts_53 rfl ?_
      refine g_ishl X dX10_draughts_54 ?_
      refine g_toe (x' := nI (2 ^ v)) (shl2 v (by omega)) ?_
      refine g_icmp_ge X 168 dX10_draughts_55 (by decide) (fun c55_20 => absurd c55_20 (fge (a := dd) (b := 2 ^ v) (by omega) (by omega) (by omega))) (fun c55_20 => ?_)
      refine g_aload_n X dX10_draughts_58 rfl ?_
      refine g_get X uwX10 0 rfl rfl 4 (by decide) kl_X10_35 rfl rfl gwX10 dX10_draughts_59 ?_
      refine g_aload_n X dX10_draughts_62 rfl ?_
      refine g_get X uwX10 0 rfl rfl 3 (by decide) kl_X10_31 rfl rfl gwX10 dX10_draughts_63 ?_
      refine g_callVv X (c_X8_takeFrom V o ow_ og_ td tw tg h s sw sg h day w g) mo_X8_takeFrom kl_X10_166 [4, 5, 6, 1, 2, 3] [0, 4, 5, 6, 1, 2, 3, 0, 0, 0, 0, 0, 0] rfl (by decide +kernel) rfl rfl (fun _ => Nat.le_of_ble_eq_true rfl) 4 8 rfl rfl (As := [.ref s]) (st := []) (cs' := (0, 0)) rfl rfl rfl rfl dX10_draughts_66 (fun u_21 hp_22 ws_24 hw_23 => ?_)
      have hw_23x : ws_24 = [(x0, .inr (10, [.ref t, .ref d, .ref h, .ref s, .ref o, .ref p, .ref p2, .ref ru, .ref cu, .ref br, .ref bt])), (s, .inr (8, [.ref h, .ref sw, .ref sg, .int day])), (sw, .inl (V.2.2.1, 7, .inl w)), (sg, .inl (V.2.2.1, 7, .inl g)), (o, .inr (8, [.ref h, .ref ow_, .ref og_, .int day])), (ow_, .inl (V.2.2.1, 7, .inl w)), (og_, .inl (V.2.2.1, 7, .inl g)), (h, .inr (4, [.ref hk, .ref hfw, .ref hfg, .ref hwb, .ref hld, .ref hte, .ref hpu, .int (nI n), .int hwa, .int (nI m), .ref hnu, .int hto])), (hk, .inl (V.2.2.1, 7, .inl k)), (hwb, .inl (V.2.2.1, 7, .inl wb)), (hld, .inl (V.2.2.1, 9, .inl (nIf ld))), (hte, .inl (V.2.2.1, 9, .inl (nIf te))), (hpu, .inl (V.2.2.1, 9, .inl (nIf pu)))] := hw_23.symm
      clear hw_23; subst hw_23x
      refine g_iconst X (1) dX10_draughts_69 (by decide) ?_
      refine g_istore X (L' := [some (.ref x0), some (.int (nI c)), some (.int (nI v)), some (.int x), some (.int 1), some (.int ab), some (.int (nI dd)), some (.int 1), none, none]) dX10_draughts_70 (by decide) rfl rfl ?_
      refine g_iconst X (0) dX10_draughts_72 (by decide) ?_
      refine g_istore X (L' := [some (.ref x0), some (.int (nI c)), some (.int (nI v)), some (.int x), some (.int 1), some (.int ab), some (.int (nI dd)), some (.int 1), some (.int 0), none]) dX10_draughts_73 (by decide) rfl rfl ?_
      have loop75_26 : ∀ (d75 i : Nat), i + d75 = v → ∀ (wt : Int32) (w1 : Nat → Int32) (dy : Int32) (h6 : (wt, w1) = it (draS k wb ld te pu n m g x day dd) i (1, w)) (h7 : dy = day + nI i), G V Z 10 (0, 0) [(x0, .inr (10, [.ref t, .ref d, .ref h, .ref s, .ref o, .ref p, .ref p2, .ref ru, .ref cu, .ref br, .ref bt])), (s, .inr (8, [.ref h, .ref sw, .ref sg, .int day])), (sw, .inl (V.2.2.1, 7, .inl w)), (sg, .inl (V.2.2.1, 7, .inl g)), (o, .inr (8, [.ref h, .ref ow_, .ref og_, .int dy])), (ow_, .inl (V.2.2.1, 7, .inl w1)), (og_, .inl (V.2.2.1, 7, .inl g)), (h, .inr (4, [.ref hk, .ref hfw, .ref hfg, .ref hwb, .ref hld, .ref hte, .ref hpu, .int (nI n), .int hwa, .int (nI m), .ref hnu, .int hto])), (hk, .inl (V.2.2.1, 7, .inl k)), (hwb, .inl (V.2.2.1, 7, .inl wb)), (hld, .inl (V.2.2.1, 9, .inl (nIf ld))), (hte, .inl (V.2.2.1, 9, .inl (nIf te))), (hpu, .inl (V.2.2.1, 9, .inl (nIf pu)))] 75 [some (.ref x0), some (.int (nI c)), some (.int (nI v)), some (.int x), some (.int 1), some (.int ab), some (.int (nI dd)), some (.int wt), some (.int (nI i)), none] [] := by
        intro d75
        induction d75 with
        | zero =>
          intro i hi wt w1 dy h6 h7
          refine g_iload X dX10_draughts_75 rfl ?_
          refine g_iload_n X dX10_draughts_77 rfl ?_
          refine g_icmp_ge X 140 dX10_draughts_78 (by decide) (fun c78_27 => ?_) (fun c78_27 => absurd (tge (a := i) (b := v) (by omega) (by omega) (by omega)) c78_27)
          refine g_iload X dX10_draughts_140 rfl ?_
          refine g_aload_n X dX10_draughts_142 rfl ?_
          refine g_get X uwX10 0 rfl rfl 4 (by decide) kl_X10_35 rfl rfl gwX10 dX10_draughts_143 ?_
          refine g_iload_n X dX10_draughts_146 rfl ?_
          refine g_callVi X (c_X8_wrongOf V o ow_ og_ dy w1 h c (by omega)) mo_X8_wrongOf kl_X10_121 [4, 5] [0, 0, 0, 0, 1, 2, 0, 0, 0, 0, 0, 0, 0] rfl (by decide +kernel) rfl rfl (fun _ => Nat.le_of_ble_eq_true rfl) 4 8 rfl rfl (As := [.int (nI c)]) (st := [.int ab]) (cs' := (0, 0)) rfl rfl rfl rfl dX10_draughts_147 (fun r_32 u_28 hp_29 ws_31 hw_30 => ?_)
          obtain rfl : r_32 = w1 c := hp_29
          have hw_30x : ws_31 = [(x0, .inr (10, [.ref t, .ref d, .ref h, .ref s, .ref o, .ref p, .ref p2, .ref ru, .ref cu, .ref br, .ref bt])), (s, .inr (8, [.ref h, .ref sw, .ref sg, .int day])), (sw, .inl (V.2.2.1, 7, .inl w)), (sg, .inl (V.2.2.1, 7, .inl g)), (o, .inr (8, [.ref h, .ref ow_, .ref og_, .int dy])), (ow_, .inl (V.2.2.1, 7, .inl w1)), (og_, .inl (V.2.2.1, 7, .inl g)), (h, .inr (4, [.ref hk, .ref hfw, .ref hfg, .ref hwb, .ref hld, .ref hte, .ref hpu, .int (nI n), .int hwa, .int (nI m), .ref hnu, .int hto])), (hk, .inl (V.2.2.1, 7, .inl k)), (hwb, .inl (V.2.2.1, 7, .inl wb)), (hld, .inl (V.2.2.1, 9, .inl (nIf ld))), (hte, .inl (V.2.2.1, 9, .inl (nIf te))), (hpu, .inl (V.2.2.1, 9, .inl (nIf pu)))] := hw_30.symm
          clear hw_30; subst hw_30x
          refine g_if_ne X 158 dX10_draughts_150 (by decide) (fun c150_33 => ?_) (fun c150_33 => ?_)
          · refine g_iconst X (0) dX10_draughts_158 (by decide) ?_
            refine g_iadd X dX10_draughts_159 ?_
            refine g_istore X (L' := [some (.ref x0), some (.int (nI c)), some (.int (nI v)), some (.int x), some (.int 1), some (.int (ab + 0)), some (.int (nI dd)), some (.int wt), some (.int (nI i)), none]) dX10_draughts_160 (by decide) rfl rfl ?_
            refine g_iinc X (v := nI (dd + 1)) (L' := [some (.ref x0), some (.int (nI c)), some (.int (nI v)), some (.int x), some (.int 1), some (.int (ab + 0)), some (.int (nI (dd + 1))), some (.int wt), some (.int (nI i)), none]) dX10_draughts_162 rfl (nI_addk (by decide)) (by decide) rfl rfl ?_
            refine g_goto X 50 dX10_draughts_165 (by decide) ?_
            refine g_sub (L' := [some (.ref x0), some (.int (nI c)), some (.int (nI v)), some (.int x), some (.int 1), some (.int (ab + 0)), some (.int (nI (dd + 1))), none, none, none]) ⟨rfl, ⟨rfl, ⟨rfl, ⟨rfl, ⟨rfl, ⟨rfl, ⟨rfl, trivial⟩⟩⟩⟩⟩⟩⟩ ?_
            exact ih50 (dd + 1) (by omega) (ab + 0) w1 g dy (by have e : i = v := (by omega); subst e; rw [aboF, it_s, ← aboF, ← h5, draF, ← h6]; simp [c150_33])
          · refine g_iload X dX10_draughts_153 rfl ?_
            refine g_goto X 159 dX10_draughts_155 (by decide) ?_
            refine g_iadd X dX10_draughts_159 ?_
            refine g_istore X (L' := [some (.ref x0), some (.int (nI c)), some (.int (nI v)), some (.int x), some (.int 1), some (.int (ab + wt)), some (.int (nI dd)), some (.int wt), some (.int (nI i)), none]) dX10_draughts_160 (by decide) rfl rfl ?_
            refine g_iinc X (v := nI (dd + 1)) (L' := [some (.ref x0), some (.int (nI c)), some (.int (nI v)), some (.int x), some (.int 1), some (.int (ab + wt)), some (.int (nI (dd + 1))), some (.int wt), some (.int (nI i)), none]) dX10_draughts_162 rfl (nI_addk (by decide)) (by decide) rfl rfl ?_
            refine g_goto X 50 dX10_draughts_165 (by decide) ?_
            refine g_sub (L' := [some (.ref x0), some (.int (nI c)), some (.int (nI v)), some (.int x), some (.int 1), some (.int (ab + wt)), some (.int (nI (dd + 1))), none, none, none]) ⟨rfl, ⟨rfl, ⟨rfl, ⟨rfl, ⟨rfl, ⟨rfl, ⟨rfl, trivial⟩⟩⟩⟩⟩⟩⟩ ?_
            exact ih50 (dd + 1) (by omega) (ab + wt) w1 g dy (by have e : i = v := (by omega); subst e; rw [aboF, it_s, ← aboF, ← h5, draF, ← h6]; simp [c150_33])
        | succ d75 ih75 =>
          intro i hi wt w1 dy h6 h7
          refine g_iload X dX10_draughts_75 rfl ?_
          refine g_iload_n X dX10_draughts_77 rfl ?_
          refine g_icmp_ge X 140 dX10_draughts_78 (by decide) (fun c78_34 => absurd c78_34 (fge (a := i) (b := v) (by omega) (by omega) (by omega))) (fun c78_34 => ?_)
          refine g_iload X dX10_draughts_81 rfl ?_
          refine g_iload X dX10_draughts_83 rfl ?_
          refine g_ishr X dX10_draughts_85 ?_
          refine g_iconst X (1) dX10_draughts_86 (by decide) ?_
          refine g_iand X dX10_draughts_87 ?_
          refine g_iconst X (1) dX10_draughts_88 (by decide) ?_
          refine g_icmp_ne X 96 dX10_draughts_89 (by decide) (fun c89_35 => ?_) (fun c89_35 => ?_)
          · refine g_iconst X (0) dX10_draughts_96 (by decide) ?_
            refine g_istore X (L' := [some (.ref x0), some (.int (nI c)), some (.int (nI v)), some (.int x), some (.int 1), some (.int ab), some (.int (nI dd)), some (.int wt), some (.int (nI i)), some (.int 0)]) dX10_draughts_97 (by decide) rfl rfl ?_
            refine g_iload X dX10_draughts_99 rfl ?_
            refine g_iload X dX10_draughts_101 rfl ?_
            refine g_if_eq X 110 dX10_draughts_103 (by decide) (fun c103_36 => ?_) (fun c103_36 => absurd (by decide) c103_36)
            refine g_bipush X (10) dX10_draughts_110 (by decide) ?_
            refine g_iload_n X dX10_draughts_112 rfl ?_
            refine g_isub X dX10_draughts_113 ?_
            refine g_imul X dX10_draughts_114 ?_
            refine g_istore X (L' := [some (.ref x0), some (.int (nI c)), some (.int (nI v)), some (.int x), some (.int 1), some (.int ab), some (.int (nI dd)), some (.int (wt * (10 - x))), some (.int (nI i)), some (.int 0)]) dX10_draughts_115 (by decide) rfl rfl ?_
            refine g_aload_n X dX10_draughts_117 rfl ?_
            refine g_get X uwX10 0 rfl rfl 4 (by decide) kl_X10_35 rfl rfl gwX10 dX10_draughts_118 ?_
            refine g_iload X dX10_draughts_121 rfl ?_
            refine g_if_ne X 130 dX10_draughts_123 (by decide) (fun c123_37 => absurd (by decide) c123_37) (fun c123_37 => ?_)
            refine g_iconst X (1) dX10_draughts_126 (by decide) ?_
            refine g_goto X 131 dX10_draughts_127 (by decide) ?_
            refine g_callVv X (c_X8_passDay V o ow_ og_ dy w1 g h hk hfw hfg hwb hld hte hpu hnu n m hwa hto k wb ld te pu 1 (by omega) (by omega) ht) mo_X8_passDay kl_X10_230 [4, 5, 6, 7, 8, 9, 10, 11, 12] [0, 0, 0, 0, 1, 2, 3, 4, 5, 6, 7, 8, 9] rfl (by decide +kernel) rfl rfl (fun _ => Nat.le_of_ble_eq_true rfl) 4 8 rfl rfl (As := [.int 1]) (st := []) (cs' := (0, 0)) rfl rfl rfl rfl dX10_draughts_131 (fun nw_38 hp_39 ws_41 hw_40 => ?_)
            obtain rfl : nw_38 = dayF k wb ld te pu n m g 1 dy w1 := hp_39
            have hw_40x : ws_41 = [(x0, .inr (10, [.ref t, .ref d, .ref h, .ref s, .ref o, .ref p, .ref p2, .ref ru, .ref cu, .ref br, .ref bt])), (s, .inr (8, [.ref h, .ref sw, .ref sg, .int day])), (sw, .inl (V.2.2.1, 7, .inl w)), (sg, .inl (V.2.2.1, 7, .inl g)), (o, .inr (8, [.ref h, .ref ow_, .ref og_, .int (dy + 1)])), (ow_, .inl (V.2.2.1, 7, .inl (dayF k wb ld te pu n m g 1 dy w1))), (og_, .inl (V.2.2.1, 7, .inl g)), (h, .inr (4, [.ref hk, .ref hfw, .ref hfg, .ref hwb, .ref hld, .ref hte, .ref hpu, .int (nI n), .int hwa, .int (nI m), .ref hnu, .int hto])), (hk, .inl (V.2.2.1, 7, .inl k)), (hwb, .inl (V.2.2.1, 7, .inl wb)), (hld, .inl (V.2.2.1, 9, .inl (nIf ld))), (hte, .inl (V.2.2.1, 9, .inl (nIf te))), (hpu, .inl (V.2.2.1, 9, .inl (nIf pu)))] := hw_40.symm
            clear hw_40; subst hw_40x
            refine g_iinc X (v := nI (i + 1)) (L' := [some (.ref x0), some (.int (nI c)), some (.int (nI v)), some (.int x), some (.int 1), some (.int ab), some (.int (nI dd)), some (.int (wt * (10 - x))), some (.int (nI (i + 1))), some (.int 0)]) dX10_draughts_134 rfl (nI_addk (by decide)) (by decide) rfl rfl ?_
            refine g_goto X 75 dX10_draughts_137 (by decide) ?_
            refine g_sub (L' := [some (.ref x0), some (.int (nI c)), some (.int (nI v)), some (.int x), some (.int 1), some (.int ab), some (.int (nI dd)), some (.int (wt * (10 - x))), some (.int (nI (i + 1))), none]) ⟨rfl, ⟨rfl, ⟨rfl, ⟨rfl, ⟨rfl, ⟨rfl, ⟨rfl, ⟨rfl, ⟨rfl, trivial⟩⟩⟩⟩⟩⟩⟩⟩⟩ ?_
            exact ih75 (i + 1) (by omega) (wt * (10 - x)) (dayF k wb ld te pu n m g 1 dy w1) (dy + 1) (by rw [it_s, ← h6, draS, hasF, h7]; simp [c89_35]) (by rw [h7, Int32.add_assoc, nI_1])
          · refine g_iconst X (1) dX10_draughts_92 (by decide) ?_
            refine g_goto X 97 dX10_draughts_93 (by decide) ?_
            refine g_istore X (L' := [some (.ref x0), some (.int (nI c)), some (.int (nI v)), some (.int x), some (.int 1), some (.int ab), some (.int (nI dd)), some (.int wt), some (.int (nI i)), some (.int 1)]) dX10_draughts_97 (by decide) rfl rfl ?_
            refine g_iload X dX10_draughts_99 rfl ?_
            refine g_iload X dX10_draughts_101 rfl ?_
            refine g_if_eq X 110 dX10_draughts_103 (by decide) (fun c103_43 => absurd c103_43 (by decide)) (fun c103_43 => ?_)
            refine g_iload_n X dX10_draughts_106 rfl ?_
            refine g_goto X 114 dX10_draughts_107 (by decide) ?_
            refine g_imul X dX10_draughts_114 ?_
            refine g_istore X (L' := [some (.ref x0), some (.int (nI c)), some (.int (nI v)), some (.int x), some (.int 1), some (.int ab), some (.int (nI dd)), some (.int (wt * x)), some (.int (nI i)), some (.int 1)]) dX10_draughts_115 (by decide) rfl rfl ?_
            refine g_aload_n X dX10_draughts_117 rfl ?_
            refine g_get X uwX10 0 rfl rfl 4 (by decide) kl_X10_35 rfl rfl gwX10 dX10_draughts_118 ?_
            refine g_iload X dX10_draughts_121 rfl ?_
            refine g_if_ne X 130 dX10_draughts_123 (by decide) (fun c123_44 => ?_) (fun c123_44 => absurd c123_44 (by decide))
            refine g_iconst X (0) dX10_draughts_130 (by decide) ?_
            refine g_callVv X (c_X8_passDay V o ow_ og_ dy w1 g h hk hfw hfg hwb hld hte hpu hnu n m hwa hto k wb ld te pu 0 (by omega) (by omega) ht) mo_X8_passDay kl_X10_230 [4, 5, 6, 7, 8, 9, 10, 11, 12] [0, 0, 0, 0, 1, 2, 3, 4, 5, 6, 7, 8, 9] rfl (by decide +kernel) rfl rfl (fun _ => Nat.le_of_ble_eq_true rfl) 4 8 rfl rfl (As := [.int 0]) (st := []) (cs' := (0, 0)) rfl rfl rfl rfl dX10_draughts_131 (fun nw_45 hp_46 ws_48 hw_47 => ?_)
            obtain rfl : nw_45 = dayF k wb ld te pu n m g 0 dy w1 := hp_46
            have hw_47x : ws_48 = [(x0, .inr (10, [.ref t, .ref d, .ref h, .ref s, .ref o, .ref p, .ref p2, .ref ru, .ref cu, .ref br, .ref bt])), (s, .inr (8, [.ref h, .ref sw, .ref sg, .int day])), (sw, .inl (V.2.2.1, 7, .inl w)), (sg, .inl (V.2.2.1, 7, .inl g)), (o, .inr (8, [.ref h, .ref ow_, .ref og_, .int (dy + 1)])), (ow_, .inl (V.2.2.1, 7, .inl (dayF k wb ld te pu n m g 0 dy w1))), (og_, .inl (V.2.2.1, 7, .inl g)), (h, .inr (4, [.ref hk, .ref hfw, .ref hfg, .ref hwb, .ref hld, .ref hte, .ref hpu, .int (nI n), .int hwa, .int (nI m), .ref hnu, .int hto])), (hk, .inl (V.2.2.1, 7, .inl k)), (hwb, .inl (V.2.2.1, 7, .inl wb)), (hld, .inl (V.2.2.1, 9, .inl (nIf ld))), (hte, .inl (V.2.2.1, 9, .inl (nIf te))), (hpu, .inl (V.2.2.1, 9, .inl (nIf pu)))] := hw_47.symm
            clear hw_47; subst hw_47x
            refine g_iinc X (v := nI (i + 1)) (L' := [some (.ref x0), some (.int (nI c)), some (.int (nI v)), some (.int x), some (.int 1), some (.int ab), some (.int (nI dd)), some (.int (wt * x)), some (.int (nI (i + 1))), some (.int 1)]) dX10_draughts_134 rfl (nI_addk (by decide)) (by decide) rfl rfl ?_
            refine g_goto X 75 dX10_draughts_137 (by decide) ?_
            refine g_sub (L' := [some (.ref x0), some (.int (nI c)), some (.int (nI v)), some (.int x), some (.int 1), some (.int ab), some (.int (nI dd)), some (.int (wt * x)), some (.int (nI (i + 1))), none]) ⟨rfl, ⟨rfl, ⟨rfl, ⟨rfl, ⟨rfl, ⟨rfl, ⟨rfl, ⟨rfl, ⟨rfl, trivial⟩⟩⟩⟩⟩⟩⟩⟩⟩ ?_
            exact ih75 (i + 1) (by omega) (wt * x) (dayF k wb ld te pu n m g 0 dy w1) (dy + 1) (by rw [it_s, ← h6, draS, hasF, h7]; simp [c89_35]) (by rw [h7, Int32.add_assoc, nI_1])
      exact loop75_26 v 0 (by omega) 1 w day rfl (by rw [nI_0, Int32.add_zero])
  exact loop50_13 (2 ^ v) 0 (by omega) 0 ow og oday rfl

set_option maxHeartbeats 4000000 in
set_option maxRecDepth 100000 in
theorem m_year_bad (V : gV) (x0 : Nat) (t : Nat) (d : Nat) (h : Nat) (s : Nat) (o : Nat) (p : Nat) (p2 : Nat) (ru : Nat) (cu : Nat) (br : Nat) (bt : Nat) (hk : Nat) (hfw : Nat) (hfg : Nat) (hwb : Nat) (hld : Nat) (hte : Nat) (hpu : Nat) (hnu : Nat) (n : Nat) (m : Nat) (hwa : Int32) (hto : Int32) (z : Int32) (v : Int32) (y : Int32) (hn : n ≤ 7) (h1n : 1 ≤ n) (hbad : ¬ (¬ z < 0 ∧ ¬ 9999 < z ∧ ¬ v < 1 ∧ ¬ 60 < v ∧ ¬ y < 0 ∧ ¬ 1 < y)) : Ki V yX10_year cX10_year 9 .int ({ frames := 0, cells := 0, slots := 0, locals := 0 }) [.ref x0, .int z, .int v, .int y] [(x0, .inr (10, [.ref t, .ref d, .ref h, .ref s, .ref o, .ref p, .ref p2, .ref ru, .ref cu, .ref br, .ref bt])), (h, .inr (4, [.ref hk, .ref hfw, .ref hfg, .ref hwb, .ref hld, .ref hte, .ref hpu, .int (nI n), .int hwa, .int (nI m), .ref hnu, .int hto]))] (fun (r : Int32) (u : Unit) => r = -1) (fun u => [(x0, .inr (10, [.ref t, .ref d, .ref h, .ref s, .ref o, .ref p, .ref p2, .ref ru, .ref cu, .ref br, .ref bt])), (h, .inr (4, [.ref hk, .ref hfw, .ref hfg, .ref hwb, .ref hld, .ref hte, .ref hpu, .int (nI n), .int hwa, .int (nI m), .ref hnu, .int hto]))]) := by
  refine Ki.of [some (.ref x0), some (.int z), some (.int v), some (.int y), none, none, none, none, none] (by decide) (Nat.le_of_ble_eq_true rfl) rfl rfl ?_
  intro Z X E
  have X : gX V Z RX10 cX10_year 9 ({ frames := 0, cells := 0, slots := 0, locals := 0 }) := X
  refine g_aload_n X dX10_year_0 rfl ?_
  refine g_get X uwX10 0 rfl rfl 2 (by decide) kl_X10_23 rfl rfl gwX10 dX10_year_1 ?_
  refine g_getN X uwX4 1 rfl rfl 7 (by decide) kl_X10_104 rfl rfl gwX4 dX10_year_4 ?_
  refine g_istore X (L' := [some (.ref x0), some (.int z), some (.int v), some (.int y), some (.int (nI n)), none, none, none, none]) dX10_year_7 (by decide) rfl rfl ?_
  refine g_iload_n X dX10_year_9 rfl ?_
  refine g_if_lt X 46 dX10_year_10 (by decide) (fun c10_1 => ?_) (fun c10_1 => ?_)
  · have c10_1d := Int32.not_le.mpr c10_1
    refine g_iconst X (-1) dX10_year_46 (by decide) ?_
    exact g_iret X E dX10_year_47 () (-1) (by first | rfl | (simp [c10_1, c10_1d]; done)) rfl
  · have c10_1d := Int32.not_lt.mp c10_1
    refine g_iload_n X dX10_year_13 rfl ?_
    refine g_sipush X (9999) dX10_year_14 (by decide) ?_
    refine g_icmp_gt X 46 dX10_year_17 (by decide) (fun c17_2 => ?_) (fun c17_2 => ?_)
    · have c17_2d := Int32.not_le.mpr c17_2
      refine g_iconst X (-1) dX10_year_46 (by decide) ?_
      exact g_iret X E dX10_year_47 () (-1) (by first | rfl | (simp [c10_1, c10_1d, c17_2, c17_2d]; done)) rfl
    · have c17_2d := Int32.not_lt.mp c17_2
      refine g_iload_n X dX10_year_20 rfl ?_
      refine g_iconst X (1) dX10_year_21 (by decide) ?_
      refine g_icmp_lt X 46 dX10_year_22 (by decide) (fun c22_3 => ?_) (fun c22_3 => ?_)
      · have c22_3d := Int32.not_le.mpr c22_3
        refine g_iconst X (-1) dX10_year_46 (by decide) ?_
        exact g_iret X E dX10_year_47 () (-1) (by first | rfl | (simp [c10_1, c10_1d, c17_2, c17_2d, c22_3, c22_3d]; done)) rfl
      · have c22_3d := Int32.not_lt.mp c22_3
        refine g_iload_n X dX10_year_25 rfl ?_
        refine g_bipush X (60) dX10_year_26 (by decide) ?_
        refine g_icmp_gt X 46 dX10_year_28 (by decide) (fun c28_4 => ?_) (fun c28_4 => ?_)
        · have c28_4d := Int32.not_le.mpr c28_4
          refine g_iconst X (-1) dX10_year_46 (by decide) ?_
          exact g_iret X E dX10_year_47 () (-1) (by first | rfl | (simp [c10_1, c10_1d, c17_2, c17_2d, c22_3, c22_3d, c28_4, c28_4d]; done)) rfl
        · have c28_4d := Int32.not_lt.mp c28_4
          refine g_iload_n X dX10_year_31 rfl ?_
          refine g_if_lt X 46 dX10_year_32 (by decide) (fun c32_5 => ?_) (fun c32_5 => ?_)
          · have c32_5d := Int32.not_le.mpr c32_5
            refine g_iconst X (-1) dX10_year_46 (by decide) ?_
            exact g_iret X E dX10_year_47 () (-1) (by first | rfl | (simp [c10_1, c10_1d, c17_2, c17_2d, c22_3, c22_3d, c28_4, c28_4d, c32_5, c32_5d]; done)) rfl
          · have c32_5d := Int32.not_lt.mp c32_5
            refine g_iload_n X dX10_year_35 rfl ?_
            refine g_iconst X (1) dX10_year_36 (by decide) ?_
            refine g_icmp_gt X 46 dX10_year_37 (by decide) (fun c37_6 => ?_) (fun c37_6 => ?_)
            · have c37_6d := Int32.not_le.mpr c37_6
              refine g_iconst X (-1) dX10_year_46 (by decide) ?_
              exact g_iret X E dX10_year_47 () (-1) (by first | rfl | (simp [c10_1, c10_1d, c17_2, c17_2d, c22_3, c22_3d, c28_4, c28_4d, c32_5, c32_5d, c37_6, c37_6d]; done)) rfl
            · have c37_6d := Int32.not_lt.mp c37_6
              refine g_iload X dX10_year_40 rfl ?_
              refine g_iconst X (1) dX10_year_42 (by decide) ?_
              refine g_icmp_ge X 48 dX10_year_43 (by decide) (fun c43_7 => ?_) (fun c43_7 => absurd (tge (a := n) (b := 1) (by omega) (by omega) (by omega)) c43_7)
              exact absurd ⟨c10_1, c17_2, c22_3, c28_4, c32_5, c37_6⟩ hbad

set_option maxHeartbeats 4000000 in
set_option maxRecDepth 100000 in
theorem m_year_0 (V : gV) (x0 : Nat) (t : Nat) (d : Nat) (h : Nat) (s : Nat) (o : Nat) (p : Nat) (p2 : Nat) (ru : Nat) (cu : Nat) (br : Nat) (bt : Nat) (sw : Nat) (sg : Nat) (day : Int32) (w : Nat → Int32) (g : Nat → Int32) (ow_ : Nat) (og_ : Nat) (oday : Int32) (ow : Nat → Int32) (og : Nat → Int32) (hk : Nat) (hfw : Nat) (hfg : Nat) (hwb : Nat) (hld : Nat) (hte : Nat) (hpu : Nat) (hnu : Nat) (n : Nat) (m : Nat) (hwa : Int32) (hto : Int32) (k : Nat → Int32) (wb : Nat → Int32) (ld : Nat → Nat) (te : Nat → Nat) (pu : Nat → Nat) (z : Nat) (v : Nat) (hn : n ≤ 7) (h1n : 1 ≤ n) (hm : m ≤ 9) (ht : ∀ i, i < m → te i < n ∧ pu i < n) (hz : z ≤ 9999) (hv : 1 ≤ v ∧ v ≤ 60) : Ki V yX10_year cX10_year 9 .int ({ frames := 5, cells := 0, slots := 0, locals := 113 }) [.ref x0, .int (nI z), .int (nI v), .int 0] [(x0, .inr (10, [.ref t, .ref d, .ref h, .ref s, .ref o, .ref p, .ref p2, .ref ru, .ref cu, .ref br, .ref bt])), (s, .inr (8, [.ref h, .ref sw, .ref sg, .int day])), (sw, .inl (V.2.2.1, 7, .inl w)), (sg, .inl (V.2.2.1, 7, .inl g)), (o, .inr (8, [.ref h, .ref ow_, .ref og_, .int oday])), (ow_, .inl (V.2.2.1, 7, .inl ow)), (og_, .inl (V.2.2.1, 7, .inl og)), (h, .inr (4, [.ref hk, .ref hfw, .ref hfg, .ref hwb, .ref hld, .ref hte, .ref hpu, .int (nI n), .int hwa, .int (nI m), .ref hnu, .int hto])), (hk, .inl (V.2.2.1, 7, .inl k)), (hwb, .inl (V.2.2.1, 7, .inl wb)), (hld, .inl (V.2.2.1, 9, .inl (nIf ld))), (hte, .inl (V.2.2.1, 9, .inl (nIf te))), (hpu, .inl (V.2.2.1, 9, .inl (nIf pu)))] (fun (r : Int32) (u : (Nat → Int32) × Int32) => r = midF n (yrF k wb ld te pu n m g day z v w) + 600) (fun u => [(x0, .inr (10, [.ref t, .ref d, .ref h, .ref s, .ref o, .ref p, .ref p2, .ref ru, .ref cu, .ref br, .ref bt])), (s, .inr (8, [.ref h, .ref sw, .ref sg, .int day])), (sw, .inl (V.2.2.1, 7, .inl w)), (sg, .inl (V.2.2.1, 7, .inl g)), (o, .inr (8, [.ref h, .ref ow_, .ref og_, .int u.2])), (ow_, .inl (V.2.2.1, 7, .inl u.1)), (og_, .inl (V.2.2.1, 7, .inl g)), (h, .inr (4, [.ref hk, .ref hfw, .ref hfg, .ref hwb, .ref hld, .ref hte, .ref hpu, .int (nI n), .int hwa, .int (nI m), .ref hnu, .int hto])), (hk, .inl (V.2.2.1, 7, .inl k)), (hwb, .inl (V.2.2.1, 7, .inl wb)), (hld, .inl (V.2.2.1, 9, .inl (nIf ld))), (hte, .inl (V.2.2.1, 9, .inl (nIf te))), (hpu, .inl (V.2.2.1, 9, .inl (nIf pu)))]) := by
  refine Ki.of [some (.ref x0), some (.int (nI z)), some (.int (nI v)), some (.int 0), none, none, none, none, none] (by decide) (Nat.le_of_ble_eq_true rfl) rfl rfl ?_
  intro Z X E
  have X : gX V Z RX10 cX10_year 9 ({ frames := 5, cells := 0, slots := 0, locals := 113 }) := X
  refine g_aload_n X dX10_year_0 rfl ?_
  refine g_get X uwX10 0 rfl rfl 2 (by decide) kl_X10_23 rfl rfl gwX10 dX10_year_1 ?_
  refine g_getN X uwX4 7 rfl rfl 7 (by decide) kl_X10_104 rfl rfl gwX4 dX10_year_4 ?_
  refine g_istore X (L' := [some (.ref x0), some (.int (nI z)), some (.int (nI v)), some (.int 0), some (.int (nI n)), none, none, none, none]) dX10_year_7 (by decide) rfl rfl ?_
  refine g_iload_n X dX10_year_9 rfl ?_
  refine g_if_lt X 46 dX10_year_10 (by decide) (fun c10_1 => absurd c10_1 (flt (a := z) (b := 0) (by omega) (by omega) (by omega))) (fun c10_1 => ?_)
  refine g_iload_n X dX10_year_13 rfl ?_
  refine g_sipush X (9999) dX10_year_14 (by decide) ?_
  refine g_icmp_gt X 46 dX10_year_17 (by decide) (fun c17_2 => absurd c17_2 (fgt (a := z) (b := 9999) (by omega) (by omega) (by omega))) (fun c17_2 => ?_)
  refine g_iload_n X dX10_year_20 rfl ?_
  refine g_iconst X (1) dX10_year_21 (by decide) ?_
  refine g_icmp_lt X 46 dX10_year_22 (by decide) (fun c22_3 => absurd c22_3 (flt (a := v) (b := 1) (by omega) (by omega) (by omega))) (fun c22_3 => ?_)
  refine g_iload_n X dX10_year_25 rfl ?_
  refine g_bipush X (60) dX10_year_26 (by decide) ?_
  refine g_icmp_gt X 46 dX10_year_28 (by decide) (fun c28_4 => absurd c28_4 (fgt (a := v) (b := 60) (by omega) (by omega) (by omega))) (fun c28_4 => ?_)
  refine g_iload_n X dX10_year_31 rfl ?_
  refine g_if_lt X 46 dX10_year_32 (by decide) (fun c32_5 => absurd c32_5 (flt (a := 0) (b := 0) (by omega) (by omega) (by omega))) (fun c32_5 => ?_)
  refine g_iload_n X dX10_year_35 rfl ?_
  refine g_iconst X (1) dX10_year_36 (by decide) ?_
  refine g_icmp_gt X 46 dX10_year_37 (by decide) (fun c37_6 => absurd c37_6 (fgt (a := 0) (b := 1) (by omega) (by omega) (by omega))) (fun c37_6 => ?_)
  refine g_iload X dX10_year_40 rfl ?_
  refine g_iconst X (1) dX10_year_42 (by decide) ?_
  refine g_icmp_ge X 48 dX10_year_43 (by decide) (fun c43_7 => ?_) (fun c43_7 => absurd (tge (a := n) (b := 1) (by omega) (by omega) (by omega)) c43_7)
  refine g_aload_n X dX10_year_48 rfl ?_
  refine g_get X uwX10 0 rfl rfl 4 (by decide) kl_X10_35 rfl rfl gwX10 dX10_year_49 ?_
  refine g_aload_n X dX10_year_52 rfl ?_
  refine g_get X uwX10 0 rfl rfl 3 (by decide) kl_X10_31 rfl rfl gwX10 dX10_year_53 ?_
  refine g_callVv X (c_X8_takeFrom V o ow_ og_ oday ow og h s sw sg h day w g) mo_X8_takeFrom kl_X10_166 [4, 5, 6, 1, 2, 3] [0, 4, 5, 6, 1, 2, 3, 0, 0, 0, 0, 0, 0] rfl (by decide +kernel) rfl rfl (fun _ => Nat.le_of_ble_eq_true rfl) 4 8 rfl rfl (As := [.ref s]) (st := []) (cs' := (0, 0)) rfl rfl rfl rfl dX10_year_56 (fun u_8 hp_9 ws_11 hw_10 => ?_)
  have hw_10x : ws_11 = [(x0, .inr (10, [.ref t, .ref d, .ref h, .ref s, .ref o, .ref p, .ref p2, .ref ru, .ref cu, .ref br, .ref bt])), (s, .inr (8, [.ref h, .ref sw, .ref sg, .int day])), (sw, .inl (V.2.2.1, 7, .inl w)), (sg, .inl (V.2.2.1, 7, .inl g)), (o, .inr (8, [.ref h, .ref ow_, .ref og_, .int day])), (ow_, .inl (V.2.2.1, 7, .inl w)), (og_, .inl (V.2.2.1, 7, .inl g)), (h, .inr (4, [.ref hk, .ref hfw, .ref hfg, .ref hwb, .ref hld, .ref hte, .ref hpu, .int (nI n), .int hwa, .int (nI m), .ref hnu, .int hto])), (hk, .inl (V.2.2.1, 7, .inl k)), (hwb, .inl (V.2.2.1, 7, .inl wb)), (hld, .inl (V.2.2.1, 9, .inl (nIf ld))), (hte, .inl (V.2.2.1, 9, .inl (nIf te))), (hpu, .inl (V.2.2.1, 9, .inl (nIf pu)))] := hw_10.symm
  clear hw_10; subst hw_10x
  refine g_iconst X (0) dX10_year_59 (by decide) ?_
  refine g_istore X (L' := [some (.ref x0), some (.int (nI z)), some (.int (nI v)), some (.int 0), some (.int (nI n)), some (.int 0), none, none, none]) dX10_year_60 (by decide) rfl rfl ?_
  have loop62_13 : ∀ (d62 i : Nat), i + d62 = v → ∀ (w1 : Nat → Int32) (dy : Int32) (h6 : w1 = yrF k wb ld te pu n m g day z i w) (h7 : dy = day + nI i), G V Z 9 (0, 0) [(x0, .inr (10, [.ref t, .ref d, .ref h, .ref s, .ref o, .ref p, .ref p2, .ref ru, .ref cu, .ref br, .ref bt])), (s, .inr (8, [.ref h, .ref sw, .ref sg, .int day])), (sw, .inl (V.2.2.1, 7, .inl w)), (sg, .inl (V.2.2.1, 7, .inl g)), (o, .inr (8, [.ref h, .ref ow_, .ref og_, .int dy])), (ow_, .inl (V.2.2.1, 7, .inl w1)), (og_, .inl (V.2.2.1, 7, .inl g)), (h, .inr (4, [.ref hk, .ref hfw, .ref hfg, .ref hwb, .ref hld, .ref hte, .ref hpu, .int (nI n), .int hwa, .int (nI m), .ref hnu, .int hto])), (hk, .inl (V.2.2.1, 7, .inl k)), (hwb, .inl (V.2.2.1, 7, .inl wb)), (hld, .inl (V.2.2.1, 9, .inl (nIf ld))), (hte, .inl (V.2.2.1, 9, .inl (nIf te))), (hpu, .inl (V.2.2.1, 9, .inl (nIf pu)))] 62 [some (.ref x0), some (.int (nI z)), some (.int (nI v)), some (.int 0), some (.int (nI n)), some (.int (nI i)), none, none, none] [] := by
    intro d62
    induction d62 with
    | zero =>
      intro i hi w1 dy h6 h7
      refine g_iload X dX10_year_62 rfl ?_
      refine g_iload_n X dX10_year_64 rfl ?_
      refine g_icmp_ge X 137 dX10_year_65 (by decide) (fun c65_14 => ?_) (fun c65_14 => absurd (tge (a := i) (b := v) (by omega) (by omega) (by omega)) c65_14)
      refine g_iload_n X dX10_year_137 rfl ?_
      refine g_if_ne X 155 dX10_year_138 (by decide) (fun c138_15 => absurd (by decide) c138_15) (fun c138_15 => ?_)
      refine g_aload_n X dX10_year_141 rfl ?_
      refine g_get X uwX10 0 rfl rfl 4 (by decide) kl_X10_35 rfl rfl gwX10 dX10_year_142 ?_
      refine g_callVi X (c_X8_middle V o ow_ og_ dy w1 h hk hfw hfg hwb hld hte hpu hnu n m hwa hto (by omega) (by omega)) mo_X8_middle kl_X10_137 [4, 5, 7] [0, 0, 0, 0, 1, 2, 0, 3, 0, 0, 0, 0, 0] rfl (by decide +kernel) rfl rfl (fun _ => Nat.le_of_ble_eq_true rfl) 4 8 rfl rfl (As := []) (st := []) (cs' := (0, 0)) rfl rfl rfl rfl dX10_year_145 (fun r_20 u_16 hp_17 ws_19 hw_18 => ?_)
      obtain rfl : r_20 = midF n w1 := hp_17
      have hw_18x : ws_19 = [(x0, .inr (10, [.ref t, .ref d, .ref h, .ref s, .ref o, .ref p, .ref p2, .ref ru, .ref cu, .ref br, .ref bt])), (s, .inr (8, [.ref h, .ref sw, .ref sg, .int day])), (sw, .inl (V.2.2.1, 7, .inl w)), (sg, .inl (V.2.2.1, 7, .inl g)), (o, .inr (8, [.ref h, .ref ow_, .ref og_, .int dy])), (ow_, .inl (V.2.2.1, 7, .inl w1)), (og_, .inl (V.2.2.1, 7, .inl g)), (h, .inr (4, [.ref hk, .ref hfw, .ref hfg, .ref hwb, .ref hld, .ref hte, .ref hpu, .int (nI n), .int hwa, .int (nI m), .ref hnu, .int hto])), (hk, .inl (V.2.2.1, 7, .inl k)), (hwb, .inl (V.2.2.1, 7, .inl wb)), (hld, .inl (V.2.2.1, 9, .inl (nIf ld))), (hte, .inl (V.2.2.1, 9, .inl (nIf te))), (hpu, .inl (V.2.2.1, 9, .inl (nIf pu)))] := hw_18.symm
      clear hw_18; subst hw_18x
      refine g_sipush X (600) dX10_year_148 (by decide) ?_
      refine g_iadd X dX10_year_151 ?_
      refine g_goto X 162 dX10_year_152 (by decide) ?_
      exact g_iret X E dX10_year_162 ⟨w1, dy⟩ ((midF n w1) + 600) (by have e : i = v := (by omega); subst e; rw [h6]) rfl
    | succ d62 ih62 =>
      intro i hi w1 dy h6 h7
      refine g_iload X dX10_year_62 rfl ?_
      refine g_iload_n X dX10_year_64 rfl ?_
      refine g_icmp_ge X 137 dX10_year_65 (by decide) (fun c65_21 => absurd c65_21 (fge (a := i) (b := v) (by omega) (by omega) (by omega))) (fun c65_21 => ?_)
      refine g_iload_n X dX10_year_68 rfl ?_
      refine g_iload X dX10_year_69 rfl ?_
      refine g_callSi X (c_X10_draw V z i (by omega) (by omega)) mo_X10_draw kl_X10_238 [] [0, 0, 0, 0, 0, 0, 0, 0, 0, 0, 0, 0, 0] rfl (by decide +kernel) rfl rfl (fun _ => Nat.le_of_ble_eq_true rfl) (As := [.int (nI z), .int (nI i)]) (st := []) (cs' := (0, 0)) rfl rfl rfl dX10_year_71 (fun r_26 u_22 hp_23 ws_25 hw_24 => ?_)
      obtain rfl : r_26 = nI (drN z i) := hp_23
      have hw_24x : ws_25 = [(x0, .inr (10, [.ref t, .ref d, .ref h, .ref s, .ref o, .ref p, .ref p2, .ref ru, .ref cu, .ref br, .ref bt])), (s, .inr (8, [.ref h, .ref sw, .ref sg, .int day])), (sw, .inl (V.2.2.1, 7, .inl w)), (sg, .inl (V.2.2.1, 7, .inl g)), (o, .inr (8, [.ref h, .ref ow_, .ref og_, .int dy])), (ow_, .inl (V.2.2.1, 7, .inl w1)), (og_, .inl (V.2.2.1, 7, .inl g)), (h, .inr (4, [.ref hk, .ref hfw, .ref hfg, .ref hwb, .ref hld, .ref hte, .ref hpu, .int (nI n), .int hwa, .int (nI m), .ref hnu, .int hto])), (hk, .inl (V.2.2.1, 7, .inl k)), (hwb, .inl (V.2.2.1, 7, .inl wb)), (hld, .inl (V.2.2.1, 9, .inl (nIf ld))), (hte, .inl (V.2.2.1, 9, .inl (nIf te))), (hpu, .inl (V.2.2.1, 9, .inl (nIf pu)))] := hw_24.symm
      clear hw_24; subst hw_24x
      refine g_istore X (L' := [some (.ref x0), some (.int (nI z)), some (.int (nI v)), some (.int 0), some (.int (nI n)), some (.int (nI i)), some (.int (nI (drN z i))), none, none]) dX10_year_74 (by decide) rfl rfl ?_
      have hd1 : drN z i < 8191 := by rw [drN]; have := Nat.mod_lt ((7919 * z + 6151 * i + 1) * (7919 * z + 6151 * i + 1)) (show 0 < 65521 by decide); omega
      have hm1 := Nat.mod_lt (drN z i) (show 0 < n by omega)
      have hm2 := Nat.mod_lt (drN z i / 8) (show 0 < n by omega)
      refine g_iload X dX10_year_76 rfl ?_
      refine g_iload X dX10_year_78 rfl ?_
      refine g_rem X dX10_year_80 (feq (a := n) (b := 0) (by omega) (by omega) (by omega)) ?_
      refine g_toe (x' := nI ((drN z i) % n)) (nI_mod' rfl rfl (by omega) (by omega) (by omega)) ?_
      refine g_istore X (L' := [some (.ref x0), some (.int (nI z)), some (.int (nI v)), some (.int 0), some (.int (nI n)), some (.int (nI i)), some (.int (nI (drN z i))), some (.int (nI ((drN z i) % n))), none]) dX10_year_81 (by decide) rfl rfl ?_
      refine g_iload X dX10_year_83 rfl ?_
      refine g_bipush X (8) dX10_year_85 (by decide) ?_
      refine g_idiv X dX10_year_87 (by decide) ?_
      refine g_toe (x' := nI ((drN z i) / 8)) (nI_div' rfl rfl (by omega) (by omega) (by omega)) ?_
      refine g_iload X dX10_year_88 rfl ?_
      refine g_rem X dX10_year_90 (feq (a := n) (b := 0) (by omega) (by omega) (by omega)) ?_
      refine g_toe (x' := nI (((drN z i) / 8) % n)) (nI_mod' rfl rfl (by omega) (by omega) (by omega)) ?_
      refine g_istore X (L' := [some (.ref x0), some (.int (nI z)), some (.int (nI v)), some (.int 0), some (.int (nI n)), some (.int (nI i)), some (.int (nI (drN z i))), some (.int (nI ((drN z i) % n))), some (.int (nI (((drN z i) / 8) % n)))]) dX10_year_91 (by decide) rfl rfl ?_
      refine g_iload X dX10_year_93 rfl ?_
      refine g_iload X dX10_year_95 rfl ?_
      refine g_icmp_eq X 123 dX10_year_97 (by decide) (fun c97_27 => ?_) (fun c97_27 => ?_)
      · have c97_27n := ieq' (a := (drN z i) % n) (b := ((drN z i) / 8) % n) c97_27 (by omega) (by omega)
        refine g_aload_n X dX10_year_123 rfl ?_
        refine g_get X uwX10 0 rfl rfl 4 (by decide) kl_X10_35 rfl rfl gwX10 dX10_year_124 ?_
        refine g_iconst X (1) dX10_year_127 (by decide) ?_
        refine g_callVv X (c_X8_passDay V o ow_ og_ dy w1 g h hk hfw hfg hwb hld hte hpu hnu n m hwa hto k wb ld te pu 1 (by omega) (by omega) ht) mo_X8_passDay kl_X10_230 [4, 5, 6, 7, 8, 9, 10, 11, 12] [0, 0, 0, 0, 1, 2, 3, 4, 5, 6, 7, 8, 9] rfl (by decide +kernel) rfl rfl (fun _ => Nat.le_of_ble_eq_true rfl) 4 8 rfl rfl (As := [.int 1]) (st := []) (cs' := (0, 0)) rfl rfl rfl rfl dX10_year_128 (fun nw_28 hp_29 ws_31 hw_30 => ?_)
        obtain rfl : nw_28 = dayF k wb ld te pu n m g 1 dy w1 := hp_29
        have hw_30x : ws_31 = [(x0, .inr (10, [.ref t, .ref d, .ref h, .ref s, .ref o, .ref p, .ref p2, .ref ru, .ref cu, .ref br, .ref bt])), (s, .inr (8, [.ref h, .ref sw, .ref sg, .int day])), (sw, .inl (V.2.2.1, 7, .inl w)), (sg, .inl (V.2.2.1, 7, .inl g)), (o, .inr (8, [.ref h, .ref ow_, .ref og_, .int (dy + 1)])), (ow_, .inl (V.2.2.1, 7, .inl (dayF k wb ld te pu n m g 1 dy w1))), (og_, .inl (V.2.2.1, 7, .inl g)), (h, .inr (4, [.ref hk, .ref hfw, .ref hfg, .ref hwb, .ref hld, .ref hte, .ref hpu, .int (nI n), .int hwa, .int (nI m), .ref hnu, .int hto])), (hk, .inl (V.2.2.1, 7, .inl k)), (hwb, .inl (V.2.2.1, 7, .inl wb)), (hld, .inl (V.2.2.1, 9, .inl (nIf ld))), (hte, .inl (V.2.2.1, 9, .inl (nIf te))), (hpu, .inl (V.2.2.1, 9, .inl (nIf pu)))] := hw_30.symm
        clear hw_30; subst hw_30x
        refine g_iinc X (v := nI (i + 1)) (L' := [some (.ref x0), some (.int (nI z)), some (.int (nI v)), some (.int 0), some (.int (nI n)), some (.int (nI (i + 1))), some (.int (nI (drN z i))), some (.int (nI ((drN z i) % n))), some (.int (nI (((drN z i) / 8) % n)))]) dX10_year_131 rfl (nI_addk (by decide)) (by decide) rfl rfl ?_
        refine g_goto X 62 dX10_year_134 (by decide) ?_
        refine g_sub (L' := [some (.ref x0), some (.int (nI z)), some (.int (nI v)), some (.int 0), some (.int (nI n)), some (.int (nI (i + 1))), none, none, none]) ⟨rfl, ⟨rfl, ⟨rfl, ⟨rfl, ⟨rfl, ⟨rfl, trivial⟩⟩⟩⟩⟩⟩ ?_
        exact ih62 (i + 1) (by omega) (dayF k wb ld te pu n m g 1 dy w1) (dy + 1) (by rw [yrF, it_s, ← yrF, ← h6, yrS, ← h7]; simp [c97_27, c97_27n]) (by rw [h7, Int32.add_assoc, nI_1])
      · have c97_27n := ine' (a := (drN z i) % n) (b := ((drN z i) / 8) % n) c97_27 (by omega) (by omega)
        refine g_aload_n X dX10_year_100 rfl ?_
        refine g_get X uwX10 0 rfl rfl 4 (by decide) kl_X10_35 rfl rfl gwX10 dX10_year_101 ?_
        refine g_iload X dX10_year_104 rfl ?_
        refine g_callVi X (c_X8_canLearn V o ow_ og_ dy h hk hfw hfg hwb hld hte hpu hnu n m hwa hto k (((drN z i) / 8) % n) (by omega)) mo_X8_canLearn kl_X10_150 [4, 7, 8] [0, 0, 0, 0, 1, 0, 0, 2, 3, 0, 0, 0, 0] rfl (by decide +kernel) rfl rfl (fun _ => Nat.le_of_ble_eq_true rfl) 4 8 rfl rfl (As := [.int (nI (((drN z i) / 8) % n))]) (st := []) (cs' := (0, 0)) rfl rfl rfl rfl dX10_year_106 (fun r_37 u_33 hp_34 ws_36 hw_35 => ?_)
        obtain rfl : r_37 = canF (k (((drN z i) / 8) % n)) dy := hp_34
        have hw_35x : ws_36 = [(x0, .inr (10, [.ref t, .ref d, .ref h, .ref s, .ref o, .ref p, .ref p2, .ref ru, .ref cu, .ref br, .ref bt])), (s, .inr (8, [.ref h, .ref sw, .ref sg, .int day])), (sw, .inl (V.2.2.1, 7, .inl w)), (sg, .inl (V.2.2.1, 7, .inl g)), (o, .inr (8, [.ref h, .ref ow_, .ref og_, .int dy])), (ow_, .inl (V.2.2.1, 7, .inl w1)), (og_, .inl (V.2.2.1, 7, .inl g)), (h, .inr (4, [.ref hk, .ref hfw, .ref hfg, .ref hwb, .ref hld, .ref hte, .ref hpu, .int (nI n), .int hwa, .int (nI m), .ref hnu, .int hto])), (hk, .inl (V.2.2.1, 7, .inl k)), (hwb, .inl (V.2.2.1, 7, .inl wb)), (hld, .inl (V.2.2.1, 9, .inl (nIf ld))), (hte, .inl (V.2.2.1, 9, .inl (nIf te))), (hpu, .inl (V.2.2.1, 9, .inl (nIf pu)))] := hw_35.symm
        clear hw_35; subst hw_35x
        refine g_if_eq X 123 dX10_year_109 (by decide) (fun c109_38 => ?_) (fun c109_38 => ?_)
        · refine g_aload_n X dX10_year_123 rfl ?_
          refine g_get X uwX10 0 rfl rfl 4 (by decide) kl_X10_35 rfl rfl gwX10 dX10_year_124 ?_
          refine g_iconst X (1) dX10_year_127 (by decide) ?_
          refine g_callVv X (c_X8_passDay V o ow_ og_ dy w1 g h hk hfw hfg hwb hld hte hpu hnu n m hwa hto k wb ld te pu 1 (by omega) (by omega) ht) mo_X8_passDay kl_X10_230 [4, 5, 6, 7, 8, 9, 10, 11, 12] [0, 0, 0, 0, 1, 2, 3, 4, 5, 6, 7, 8, 9] rfl (by decide +kernel) rfl rfl (fun _ => Nat.le_of_ble_eq_true rfl) 4 8 rfl rfl (As := [.int 1]) (st := []) (cs' := (0, 0)) rfl rfl rfl rfl dX10_year_128 (fun nw_39 hp_40 ws_42 hw_41 => ?_)
          obtain rfl : nw_39 = dayF k wb ld te pu n m g 1 dy w1 := hp_40
          have hw_41x : ws_42 = [(x0, .inr (10, [.ref t, .ref d, .ref h, .ref s, .ref o, .ref p, .ref p2, .ref ru, .ref cu, .ref br, .ref bt])), (s, .inr (8, [.ref h, .ref sw, .ref sg, .int day])), (sw, .inl (V.2.2.1, 7, .inl w)), (sg, .inl (V.2.2.1, 7, .inl g)), (o, .inr (8, [.ref h, .ref ow_, .ref og_, .int (dy + 1)])), (ow_, .inl (V.2.2.1, 7, .inl (dayF k wb ld te pu n m g 1 dy w1))), (og_, .inl (V.2.2.1, 7, .inl g)), (h, .inr (4, [.ref hk, .ref hfw, .ref hfg, .ref hwb, .ref hld, .ref hte, .ref hpu, .int (nI n), .int hwa, .int (nI m), .ref hnu, .int hto])), (hk, .inl (V.2.2.1, 7, .inl k)), (hwb, .inl (V.2.2.1, 7, .inl wb)), (hld, .inl (V.2.2.1, 9, .inl (nIf ld))), (hte, .inl (V.2.2.1, 9, .inl (nIf te))), (hpu, .inl (V.2.2.1, 9, .inl (nIf pu)))] := hw_41.symm
          clear hw_41; subst hw_41x
          refine g_iinc X (v := nI (i + 1)) (L' := [some (.ref x0), some (.int (nI z)), some (.int (nI v)), some (.int 0), some (.int (nI n)), some (.int (nI (i + 1))), some (.int (nI (drN z i))), some (.int (nI ((drN z i) % n))), some (.int (nI (((drN z i) / 8) % n)))]) dX10_year_131 rfl (nI_addk (by decide)) (by decide) rfl rfl ?_
          refine g_goto X 62 dX10_year_134 (by decide) ?_
          refine g_sub (L' := [some (.ref x0), some (.int (nI z)), some (.int (nI v)), some (.int 0), some (.int (nI n)), some (.int (nI (i + 1))), none, none, none]) ⟨rfl, ⟨rfl, ⟨rfl, ⟨rfl, ⟨rfl, ⟨rfl, trivial⟩⟩⟩⟩⟩⟩ ?_
          exact ih62 (i + 1) (by omega) (dayF k wb ld te pu n m g 1 dy w1) (dy + 1) (by rw [yrF, it_s, ← yrF, ← h6, yrS, ← h7]; simp [c97_27, c97_27n, c109_38]) (by rw [h7, Int32.add_assoc, nI_1])
        · refine g_aload_n X dX10_year_112 rfl ?_
          refine g_get X uwX10 0 rfl rfl 4 (by decide) kl_X10_35 rfl rfl gwX10 dX10_year_113 ?_
          refine g_iload X dX10_year_116 rfl ?_
          refine g_iload X dX10_year_118 rfl ?_
          refine g_callVv X (c_X8_learn V o ow_ og_ dy w1 h hk hfw hfg hwb hld hte hpu hnu n m hwa hto k ((drN z i) % n) (((drN z i) / 8) % n) (by omega) (by omega)) mo_X8_learn kl_X10_153 [4, 5, 7, 8] [0, 0, 0, 0, 1, 2, 0, 3, 4, 0, 0, 0, 0] rfl (by decide +kernel) rfl rfl (fun _ => Nat.le_of_ble_eq_true rfl) 4 8 rfl rfl (As := [.int (nI ((drN z i) % n)), .int (nI (((drN z i) / 8) % n))]) (st := []) (cs' := (0, 0)) rfl rfl rfl rfl dX10_year_120 (fun nw_44 hp_45 ws_47 hw_46 => ?_)
          obtain rfl : nw_44 = learnF k dy ((drN z i) % n) (((drN z i) / 8) % n) w1 := hp_45
          have hw_46x : ws_47 = [(x0, .inr (10, [.ref t, .ref d, .ref h, .ref s, .ref o, .ref p, .ref p2, .ref ru, .ref cu, .ref br, .ref bt])), (s, .inr (8, [.ref h, .ref sw, .ref sg, .int day])), (sw, .inl (V.2.2.1, 7, .inl w)), (sg, .inl (V.2.2.1, 7, .inl g)), (o, .inr (8, [.ref h, .ref ow_, .ref og_, .int dy])), (ow_, .inl (V.2.2.1, 7, .inl (learnF k dy ((drN z i) % n) (((drN z i) / 8) % n) w1))), (og_, .inl (V.2.2.1, 7, .inl g)), (h, .inr (4, [.ref hk, .ref hfw, .ref hfg, .ref hwb, .ref hld, .ref hte, .ref hpu, .int (nI n), .int hwa, .int (nI m), .ref hnu, .int hto])), (hk, .inl (V.2.2.1, 7, .inl k)), (hwb, .inl (V.2.2.1, 7, .inl wb)), (hld, .inl (V.2.2.1, 9, .inl (nIf ld))), (hte, .inl (V.2.2.1, 9, .inl (nIf te))), (hpu, .inl (V.2.2.1, 9, .inl (nIf pu)))] := hw_46.symm
          clear hw_46; subst hw_46x
          refine g_aload_n X dX10_year_123 rfl ?_
          refine g_get X uwX10 0 rfl rfl 4 (by decide) kl_X10_35 rfl rfl gwX10 dX10_year_124 ?_
          refine g_iconst X (1) dX10_year_127 (by decide) ?_
          refine g_callVv X (c_X8_passDay V o ow_ og_ dy (learnF k dy ((drN z i) % n) (((drN z i) / 8) % n) w1) g h hk hfw hfg hwb hld hte hpu hnu n m hwa hto k wb ld te pu 1 (by omega) (by omega) ht) mo_X8_passDay kl_X10_230 [4, 5, 6, 7, 8, 9, 10, 11, 12] [0, 0, 0, 0, 1, 2, 3, 4, 5, 6, 7, 8, 9] rfl (by decide +kernel) rfl rfl (fun _ => Nat.le_of_ble_eq_true rfl) 4 8 rfl rfl (As := [.int 1]) (st := []) (cs' := (0, 0)) rfl rfl rfl rfl dX10_year_128 (fun nw_49 hp_50 ws_52 hw_51 => ?_)
          obtain rfl : nw_49 = dayF k wb ld te pu n m g 1 dy (learnF k dy ((drN z i) % n) (((drN z i) / 8) % n) w1) := hp_50
          have hw_51x : ws_52 = [(x0, .inr (10, [.ref t, .ref d, .ref h, .ref s, .ref o, .ref p, .ref p2, .ref ru, .ref cu, .ref br, .ref bt])), (s, .inr (8, [.ref h, .ref sw, .ref sg, .int day])), (sw, .inl (V.2.2.1, 7, .inl w)), (sg, .inl (V.2.2.1, 7, .inl g)), (o, .inr (8, [.ref h, .ref ow_, .ref og_, .int (dy + 1)])), (ow_, .inl (V.2.2.1, 7, .inl (dayF k wb ld te pu n m g 1 dy (learnF k dy ((drN z i) % n) (((drN z i) / 8) % n) w1)))), (og_, .inl (V.2.2.1, 7, .inl g)), (h, .inr (4, [.ref hk, .ref hfw, .ref hfg, .ref hwb, .ref hld, .ref hte, .ref hpu, .int (nI n), .int hwa, .int (nI m), .ref hnu, .int hto])), (hk, .inl (V.2.2.1, 7, .inl k)), (hwb, .inl (V.2.2.1, 7, .inl wb)), (hld, .inl (V.2.2.1, 9, .inl (nIf ld))), (hte, .inl (V.2.2.1, 9, .inl (nIf te))), (hpu, .inl (V.2.2.1, 9, .inl (nIf pu)))] := hw_51.symm
          clear hw_51; subst hw_51x
          refine g_iinc X (v := nI (i + 1)) (L' := [some (.ref x0), some (.int (nI z)), some (.int (nI v)), some (.int 0), some (.int (nI n)), some (.int (nI (i + 1))), some (.int (nI (drN z i))), some (.int (nI ((drN z i) % n))), some (.int (nI (((drN z i) / 8) % n)))]) dX10_year_131 rfl (nI_addk (by decide)) (by decide) rfl rfl ?_
          refine g_goto X 62 dX10_year_134 (by decide) ?_
          refine g_sub (L' := [some (.ref x0), some (.int (nI z)), some (.int (nI v)), some (.int 0), some (.int (nI n)), some (.int (nI (i + 1))), none, none, none]) ⟨rfl, ⟨rfl, ⟨rfl, ⟨rfl, ⟨rfl, ⟨rfl, trivial⟩⟩⟩⟩⟩⟩ ?_
          exact ih62 (i + 1) (by omega) (dayF k wb ld te pu n m g 1 dy (learnF k dy ((drN z i) % n) (((drN z i) / 8) % n) w1)) (dy + 1) (by rw [yrF, it_s, ← yrF, ← h6, yrS, ← h7]; simp [c97_27, c97_27n, c109_38]) (by rw [h7, Int32.add_assoc, nI_1])
  exact loop62_13 v 0 (by omega) w day rfl (by rw [nI_0, Int32.add_zero])

set_option maxHeartbeats 4000000 in
set_option maxRecDepth 100000 in
theorem m_year_1 (V : gV) (x0 : Nat) (t : Nat) (d : Nat) (h : Nat) (s : Nat) (o : Nat) (p : Nat) (p2 : Nat) (ru : Nat) (cu : Nat) (br : Nat) (bt : Nat) (sw : Nat) (sg : Nat) (day : Int32) (w : Nat → Int32) (g : Nat → Int32) (ow_ : Nat) (og_ : Nat) (oday : Int32) (ow : Nat → Int32) (og : Nat → Int32) (hk : Nat) (hfw : Nat) (hfg : Nat) (hwb : Nat) (hld : Nat) (hte : Nat) (hpu : Nat) (hnu : Nat) (n : Nat) (m : Nat) (hwa : Int32) (hto : Int32) (k : Nat → Int32) (wb : Nat → Int32) (ld : Nat → Nat) (te : Nat → Nat) (pu : Nat → Nat) (z : Nat) (v : Nat) (hn : n ≤ 7) (h1n : 1 ≤ n) (hm : m ≤ 9) (ht : ∀ i, i < m → te i < n ∧ pu i < n) (hz : z ≤ 9999) (hv : 1 ≤ v ∧ v ≤ 60) : Ki V yX10_year cX10_year 9 .int ({ frames := 5, cells := 0, slots := 0, locals := 113 }) [.ref x0, .int (nI z), .int (nI v), .int 1] [(x0, .inr (10, [.ref t, .ref d, .ref h, .ref s, .ref o, .ref p, .ref p2, .ref ru, .ref cu, .ref br, .ref bt])), (s, .inr (8, [.ref h, .ref sw, .ref sg, .int day])), (sw, .inl (V.2.2.1, 7, .inl w)), (sg, .inl (V.2.2.1, 7, .inl g)), (o, .inr (8, [.ref h, .ref ow_, .ref og_, .int oday])), (ow_, .inl (V.2.2.1, 7, .inl ow)), (og_, .inl (V.2.2.1, 7, .inl og)), (h, .inr (4, [.ref hk, .ref hfw, .ref hfg, .ref hwb, .ref hld, .ref hte, .ref hpu, .int (nI n), .int hwa, .int (nI m), .ref hnu, .int hto])), (hk, .inl (V.2.2.1, 7, .inl k)), (hwb, .inl (V.2.2.1, 7, .inl wb)), (hld, .inl (V.2.2.1, 9, .inl (nIf ld))), (hte, .inl (V.2.2.1, 9, .inl (nIf te))), (hpu, .inl (V.2.2.1, 9, .inl (nIf pu)))] (fun (r : Int32) (u : (Nat → Int32) × Int32) => r = nI (rightF n (yrF k wb ld te pu n m g day z v w))) (fun u => [(x0, .inr (10, [.ref t, .ref d, .ref h, .ref s, .ref o, .ref p, .ref p2, .ref ru, .ref cu, .ref br, .ref bt])), (s, .inr (8, [.ref h, .ref sw, .ref sg, .int day])), (sw, .inl (V.2.2.1, 7, .inl w)), (sg, .inl (V.2.2.1, 7, .inl g)), (o, .inr (8, [.ref h, .ref ow_, .ref og_, .int u.2])), (ow_, .inl (V.2.2.1, 7, .inl u.1)), (og_, .inl (V.2.2.1, 7, .inl g)), (h, .inr (4, [.ref hk, .ref hfw, .ref hfg, .ref hwb, .ref hld, .ref hte, .ref hpu, .int (nI n), .int hwa, .int (nI m), .ref hnu, .int hto])), (hk, .inl (V.2.2.1, 7, .inl k)), (hwb, .inl (V.2.2.1, 7, .inl wb)), (hld, .inl (V.2.2.1, 9, .inl (nIf ld))), (hte, .inl (V.2.2.1, 9, .inl (nIf te))), (hpu, .inl (V.2.2.1, 9, .inl (nIf pu)))]) := by
  refine Ki.of [some (.ref x0), some (.int (nI z)), some (.int (nI v)), some (.int 1), none, none, none, none, none] (by decide) (Nat.le_of_ble_eq_true rfl) rfl rfl ?_
  intro Z X E
  have X : gX V Z RX10 cX10_year 9 ({ frames := 5, cells := 0, slots := 0, locals := 113 }) := X
  refine g_aload_n X dX10_year_0 rfl ?_
  refine g_get X uwX10 0 rfl rfl 2 (by decide) kl_X10_23 rfl rfl gwX10 dX10_year_1 ?_
  refine g_getN X uwX4 7 rfl rfl 7 (by decide) kl_X10_104 rfl rfl gwX4 dX10_year_4 ?_
  refine g_istore X (L' := [some (.ref x0), some (.int (nI z)), some (.int (nI v)), some (.int 1), some (.int (nI n)), none, none, none, none]) dX10_year_7 (by decide) rfl rfl ?_
  refine g_iload_n X dX10_year_9 rfl ?_
  refine g_if_lt X 46 dX10_year_10 (by decide) (fun c10_1 => absurd c10_1 (flt (a := z) (b := 0) (by omega) (by omega) (by omega))) (fun c10_1 => ?_)
  refine g_iload_n X dX10_year_13 rfl ?_
  refine g_sipush X (9999) dX10_year_14 (by decide) ?_
  refine g_icmp_gt X 46 dX10_year_17 (by decide) (fun c17_2 => absurd c17_2 (fgt (a := z) (b := 9999) (by omega) (by omega) (by omega))) (fun c17_2 => ?_)
  refine g_iload_n X dX10_year_20 rfl ?_
  refine g_iconst X (1) dX10_year_21 (by decide) ?_
  refine g_icmp_lt X 46 dX10_year_22 (by decide) (fun c22_3 => absurd c22_3 (flt (a := v) (b := 1) (by omega) (by omega) (by omega))) (fun c22_3 => ?_)
  refine g_iload_n X dX10_year_25 rfl ?_
  refine g_bipush X (60) dX10_year_26 (by decide) ?_
  refine g_icmp_gt X 46 dX10_year_28 (by decide) (fun c28_4 => absurd c28_4 (fgt (a := v) (b := 60) (by omega) (by omega) (by omega))) (fun c28_4 => ?_)
  refine g_iload_n X dX10_year_31 rfl ?_
  refine g_if_lt X 46 dX10_year_32 (by decide) (fun c32_5 => absurd c32_5 (flt (a := 1) (b := 0) (by omega) (by omega) (by omega))) (fun c32_5 => ?_)
  refine g_iload_n X dX10_year_35 rfl ?_
  refine g_iconst X (1) dX10_year_36 (by decide) ?_
  refine g_icmp_gt X 46 dX10_year_37 (by decide) (fun c37_6 => absurd c37_6 (fgt (a := 1) (b := 1) (by omega) (by omega) (by omega))) (fun c37_6 => ?_)
  refine g_iload X dX10_year_40 rfl ?_
  refine g_iconst X (1) dX10_year_42 (by decide) ?_
  refine g_icmp_ge X 48 dX10_year_43 (by decide) (fun c43_7 => ?_) (fun c43_7 => absurd (tge (a := n) (b := 1) (by omega) (by omega) (by omega)) c43_7)
  refine g_aload_n X dX10_year_48 rfl ?_
  refine g_get X uwX10 0 rfl rfl 4 (by decide) kl_X10_35 rfl rfl gwX10 dX10_year_49 ?_
  refine g_aload_n X dX10_year_52 rfl ?_
  refine g_get X uwX10 0 rfl rfl 3 (by decide) kl_X10_31 rfl rfl gwX10 dX10_year_53 ?_
  refine g_callVv X (c_X8_takeFrom V o ow_ og_ oday ow og h s sw sg h day w g) mo_X8_takeFrom kl_X10_166 [4, 5, 6, 1, 2, 3] [0, 4, 5, 6, 1, 2, 3, 0, 0, 0, 0, 0, 0] rfl (by decide +kernel) rfl rfl (fun _ => Nat.le_of_ble_eq_true rfl) 4 8 rfl rfl (As := [.ref s]) (st := []) (cs' := (0, 0)) rfl rfl rfl rfl dX10_year_56 (fun u_8 hp_9 ws_11 hw_10 => ?_)
  have hw_10x : ws_11 = [(x0, .inr (10, [.ref t, .ref d, .ref h, .ref s, .ref o, .ref p, .ref p2, .ref ru, .ref cu, .ref br, .ref bt])), (s, .inr (8, [.ref h, .ref sw, .ref sg, .int day])), (sw, .inl (V.2.2.1, 7, .inl w)), (sg, .inl (V.2.2.1, 7, .inl g)), (o, .inr (8, [.ref h, .ref ow_, .ref og_, .int day])), (ow_, .inl (V.2.2.1, 7, .inl w)), (og_, .inl (V.2.2.1, 7, .inl g)), (h, .inr (4, [.ref hk, .ref hfw, .ref hfg, .ref hwb, .ref hld, .ref hte, .ref hpu, .int (nI n), .int hwa, .int (nI m), .ref hnu, .int hto])), (hk, .inl (V.2.2.1, 7, .inl k)), (hwb, .inl (V.2.2.1, 7, .inl wb)), (hld, .inl (V.2.2.1, 9, .inl (nIf ld))), (hte, .inl (V.2.2.1, 9, .inl (nIf te))), (hpu, .inl (V.2.2.1, 9, .inl (nIf pu)))] := hw_10.symm
  clear hw_10; subst hw_10x
  refine g_iconst X (0) dX10_year_59 (by decide) ?_
  refine g_istore X (L' := [some (.ref x0), some (.int (nI z)), some (.int (nI v)), some (.int 1), some (.int (nI n)), some (.int 0), none, none, none]) dX10_year_60 (by decide) rfl rfl ?_
  have loop62_13 : ∀ (d62 i : Nat), i + d62 = v → ∀ (w1 : Nat → Int32) (dy : Int32) (h6 : w1 = yrF k wb ld te pu n m g day z i w) (h7 : dy = day + nI i), G V Z 9 (0, 0) [(x0, .inr (10, [.ref t, .ref d, .ref h, .ref s, .ref o, .ref p, .ref p2, .ref ru, .ref cu, .ref br, .ref bt])), (s, .inr (8, [.ref h, .ref sw, .ref sg, .int day])), (sw, .inl (V.2.2.1, 7, .inl w)), (sg, .inl (V.2.2.1, 7, .inl g)), (o, .inr (8, [.ref h, .ref ow_, .ref og_, .int dy])), (ow_, .inl (V.2.2.1, 7, .inl w1)), (og_, .inl (V.2.2.1, 7, .inl g)), (h, .inr (4, [.ref hk, .ref hfw, .ref hfg, .ref hwb, .ref hld, .ref hte, .ref hpu, .int (nI n), .int hwa, .int (nI m), .ref hnu, .int hto])), (hk, .inl (V.2.2.1, 7, .inl k)), (hwb, .inl (V.2.2.1, 7, .inl wb)), (hld, .inl (V.2.2.1, 9, .inl (nIf ld))), (hte, .inl (V.2.2.1, 9, .inl (nIf te))), (hpu, .inl (V.2.2.1, 9, .inl (nIf pu)))] 62 [some (.ref x0), some (.int (nI z)), some (.int (nI v)), some (.int 1), some (.int (nI n)), some (.int (nI i)), none, none, none] [] := by
    intro d62
    induction d62 with
    | zero =>
      intro i hi w1 dy h6 h7
      refine g_iload X dX10_year_62 rfl ?_
      refine g_iload_n X dX10_year_64 rfl ?_
      refine g_icmp_ge X 137 dX10_year_65 (by decide) (fun c65_14 => ?_) (fun c65_14 => absurd (tge (a := i) (b := v) (by omega) (by omega) (by omega)) c65_14)
      refine g_iload_n X dX10_year_137 rfl ?_
      refine g_if_ne X 155 dX10_year_138 (by decide) (fun c138_15 => ?_) (fun c138_15 => absurd c138_15 (by decide))
      refine g_aload_n X dX10_year_155 rfl ?_
      refine g_get X uwX10 0 rfl rfl 4 (by decide) kl_X10_35 rfl rfl gwX10 dX10_year_156 ?_
      refine g_callVi X (c_X8_rightOnes V o ow_ og_ dy w1 h hk hfw hfg hwb hld hte hpu hnu n m hwa hto (by omega)) mo_X8_rightOnes kl_X10_241 [4, 5, 7] [0, 0, 0, 0, 1, 2, 0, 3, 0, 0, 0, 0, 0] rfl (by decide +kernel) rfl rfl (fun _ => Nat.le_of_ble_eq_true rfl) 4 8 rfl rfl (As := []) (st := []) (cs' := (0, 0)) rfl rfl rfl rfl dX10_year_159 (fun r_20 u_16 hp_17 ws_19 hw_18 => ?_)
      obtain rfl : r_20 = nI (rightF n w1) := hp_17
      have hw_18x : ws_19 = [(x0, .inr (10, [.ref t, .ref d, .ref h, .ref s, .ref o, .ref p, .ref p2, .ref ru, .ref cu, .ref br, .ref bt])), (s, .inr (8, [.ref h, .ref sw, .ref sg, .int day])), (sw, .inl (V.2.2.1, 7, .inl w)), (sg, .inl (V.2.2.1, 7, .inl g)), (o, .inr (8, [.ref h, .ref ow_, .ref og_, .int dy])), (ow_, .inl (V.2.2.1, 7, .inl w1)), (og_, .inl (V.2.2.1, 7, .inl g)), (h, .inr (4, [.ref hk, .ref hfw, .ref hfg, .ref hwb, .ref hld, .ref hte, .ref hpu, .int (nI n), .int hwa, .int (nI m), .ref hnu, .int hto])), (hk, .inl (V.2.2.1, 7, .inl k)), (hwb, .inl (V.2.2.1, 7, .inl wb)), (hld, .inl (V.2.2.1, 9, .inl (nIf ld))), (hte, .inl (V.2.2.1, 9, .inl (nIf te))), (hpu, .inl (V.2.2.1, 9, .inl (nIf pu)))] := hw_18.symm
      clear hw_18; subst hw_18x
      exact g_iret X E dX10_year_162 ⟨w1, dy⟩ (nI (rightF n w1)) (by have e : i = v := (by omega); subst e; rw [h6]) rfl
    | succ d62 ih62 =>
      intro i hi w1 dy h6 h7
      refine g_iload X dX10_year_62 rfl ?_
      refine g_iload_n X dX10_year_64 rfl ?_
      refine g_icmp_ge X 137 dX10_year_65 (by decide) (fun c65_21 => absurd c65_21 (fge (a := i) (b := v) (by omega) (by omega) (by omega))) (fun c65_21 => ?_)
      refine g_iload_n X dX10_year_68 rfl ?_
      refine g_iload X dX10_year_69 rfl ?_
      refine g_callSi X (c_X10_draw V z i (by omega) (by omega)) mo_X10_draw kl_X10_238 [] [0, 0, 0, 0, 0, 0, 0, 0, 0, 0, 0, 0, 0] rfl (by decide +kernel) rfl rfl (fun _ => Nat.le_of_ble_eq_true rfl) (As := [.int (nI z), .int (nI i)]) (st := []) (cs' := (0, 0)) rfl rfl rfl dX10_year_71 (fun r_26 u_22 hp_23 ws_25 hw_24 => ?_)
      obtain rfl : r_26 = nI (drN z i) := hp_23
      have hw_24x : ws_25 = [(x0, .inr (10, [.ref t, .ref d, .ref h, .ref s, .ref o, .ref p, .ref p2, .ref ru, .ref cu, .ref br, .ref bt])), (s, .inr (8, [.ref h, .ref sw, .ref sg, .int day])), (sw, .inl (V.2.2.1, 7, .inl w)), (sg, .inl (V.2.2.1, 7, .inl g)), (o, .inr (8, [.ref h, .ref ow_, .ref og_, .int dy])), (ow_, .inl (V.2.2.1, 7, .inl w1)), (og_, .inl (V.2.2.1, 7, .inl g)), (h, .inr (4, [.ref hk, .ref hfw, .ref hfg, .ref hwb, .ref hld, .ref hte, .ref hpu, .int (nI n), .int hwa, .int (nI m), .ref hnu, .int hto])), (hk, .inl (V.2.2.1, 7, .inl k)), (hwb, .inl (V.2.2.1, 7, .inl wb)), (hld, .inl (V.2.2.1, 9, .inl (nIf ld))), (hte, .inl (V.2.2.1, 9, .inl (nIf te))), (hpu, .inl (V.2.2.1, 9, .inl (nIf pu)))] := hw_24.symm
      clear hw_24; subst hw_24x
      refine g_istore X (L' := [some (.ref x0), some (.int (nI z)), some (.int (nI v)), some (.int 1), some (.int (nI n)), some (.int (nI i)), some (.int (nI (drN z i))), none, none]) dX10_year_74 (by decide) rfl rfl ?_
      have hd1 : drN z i < 8191 := by rw [drN]; have := Nat.mod_lt ((7919 * z + 6151 * i + 1) * (7919 * z + 6151 * i + 1)) (show 0 < 65521 by decide); omega
      have hm1 := Nat.mod_lt (drN z i) (show 0 < n by omega)
      have hm2 := Nat.mod_lt (drN z i / 8) (show 0 < n by omega)
      refine g_iload X dX10_year_76 rfl ?_
      refine g_iload X dX10_year_78 rfl ?_
      refine g_rem X dX10_year_80 (feq (a := n) (b := 0) (by omega) (by omega) (by omega)) ?_
      refine g_toe (x' := nI ((drN z i) % n)) (nI_mod' rfl rfl (by omega) (by omega) (by omega)) ?_
      refine g_istore X (L' := [some (.ref x0), some (.int (nI z)), some (.int (nI v)), some (.int 1), some (.int (nI n)), some (.int (nI i)), some (.int (nI (drN z i))), some (.int (nI ((drN z i) % n))), none]) dX10_year_81 (by decide) rfl rfl ?_
      refine g_iload X dX10_year_83 rfl ?_
      refine g_bipush X (8) dX10_year_85 (by decide) ?_
      refine g_idiv X dX10_year_87 (by decide) ?_
      refine g_toe (x' := nI ((drN z i) / 8)) (nI_div' rfl rfl (by omega) (by omega) (by omega)) ?_
      refine g_iload X dX10_year_88 rfl ?_
      refine g_rem X dX10_year_90 (feq (a := n) (b := 0) (by omega) (by omega) (by omega)) ?_
      refine g_toe (x' := nI (((drN z i) / 8) % n)) (nI_mod' rfl rfl (by omega) (by omega) (by omega)) ?_
      refine g_istore X (L' := [some (.ref x0), some (.int (nI z)), some (.int (nI v)), some (.int 1), some (.int (nI n)), some (.int (nI i)), some (.int (nI (drN z i))), some (.int (nI ((drN z i) % n))), some (.int (nI (((drN z i) / 8) % n)))]) dX10_year_91 (by decide) rfl rfl ?_
      refine g_iload X dX10_year_93 rfl ?_
      refine g_iload X dX10_year_95 rfl ?_
      refine g_icmp_eq X 123 dX10_year_97 (by decide) (fun c97_27 => ?_) (fun c97_27 => ?_)
      · have c97_27n := ieq' (a := (drN z i) % n) (b := ((drN z i) / 8) % n) c97_27 (by omega) (by omega)
        refine g_aload_n X dX10_year_123 rfl ?_
        refine g_get X uwX10 0 rfl rfl 4 (by decide) kl_X10_35 rfl rfl gwX10 dX10_year_124 ?_
        refine g_iconst X (1) dX10_year_127 (by decide) ?_
        refine g_callVv X (c_X8_passDay V o ow_ og_ dy w1 g h hk hfw hfg hwb hld hte hpu hnu n m hwa hto k wb ld te pu 1 (by omega) (by omega) ht) mo_X8_passDay kl_X10_230 [4, 5, 6, 7, 8, 9, 10, 11, 12] [0, 0, 0, 0, 1, 2, 3, 4, 5, 6, 7, 8, 9] rfl (by decide +kernel) rfl rfl (fun _ => Nat.le_of_ble_eq_true rfl) 4 8 rfl rfl (As := [.int 1]) (st := []) (cs' := (0, 0)) rfl rfl rfl rfl dX10_year_128 (fun nw_28 hp_29 ws_31 hw_30 => ?_)
        obtain rfl : nw_28 = dayF k wb ld te pu n m g 1 dy w1 := hp_29
        have hw_30x : ws_31 = [(x0, .inr (10, [.ref t, .ref d, .ref h, .ref s, .ref o, .ref p, .ref p2, .ref ru, .ref cu, .ref br, .ref bt])), (s, .inr (8, [.ref h, .ref sw, .ref sg, .int day])), (sw, .inl (V.2.2.1, 7, .inl w)), (sg, .inl (V.2.2.1, 7, .inl g)), (o, .inr (8, [.ref h, .ref ow_, .ref og_, .int (dy + 1)])), (ow_, .inl (V.2.2.1, 7, .inl (dayF k wb ld te pu n m g 1 dy w1))), (og_, .inl (V.2.2.1, 7, .inl g)), (h, .inr (4, [.ref hk, .ref hfw, .ref hfg, .ref hwb, .ref hld, .ref hte, .ref hpu, .int (nI n), .int hwa, .int (nI m), .ref hnu, .int hto])), (hk, .inl (V.2.2.1, 7, .inl k)), (hwb, .inl (V.2.2.1, 7, .inl wb)), (hld, .inl (V.2.2.1, 9, .inl (nIf ld))), (hte, .inl (V.2.2.1, 9, .inl (nIf te))), (hpu, .inl (V.2.2.1, 9, .inl (nIf pu)))] := hw_30.symm
        clear hw_30; subst hw_30x
        refine g_iinc X (v := nI (i + 1)) (L' := [some (.ref x0), some (.int (nI z)), some (.int (nI v)), some (.int 1), some (.int (nI n)), some (.int (nI (i + 1))), some (.int (nI (drN z i))), some (.int (nI ((drN z i) % n))), some (.int (nI (((drN z i) / 8) % n)))]) dX10_year_131 rfl (nI_addk (by decide)) (by decide) rfl rfl ?_
        refine g_goto X 62 dX10_year_134 (by decide) ?_
        refine g_sub (L' := [some (.ref x0), some (.int (nI z)), some (.int (nI v)), some (.int 1), some (.int (nI n)), some (.int (nI (i + 1))), none, none, none]) ⟨rfl, ⟨rfl, ⟨rfl, ⟨rfl, ⟨rfl, ⟨rfl, trivial⟩⟩⟩⟩⟩⟩ ?_
        exact ih62 (i + 1) (by omega) (dayF k wb ld te pu n m g 1 dy w1) (dy + 1) (by rw [yrF, it_s, ← yrF, ← h6, yrS, ← h7]; simp [c97_27, c97_27n]) (by rw [h7, Int32.add_assoc, nI_1])
      · have c97_27n := ine' (a := (drN z i) % n) (b := ((drN z i) / 8) % n) c97_27 (by omega) (by omega)
        refine g_aload_n X dX10_year_100 rfl ?_
        refine g_get X uwX10 0 rfl rfl 4 (by decide) kl_X10_35 rfl rfl gwX10 dX10_year_101 ?_
        refine g_iload X dX10_year_104 rfl ?_
        refine g_callVi X (c_X8_canLearn V o ow_ og_ dy h hk hfw hfg hwb hld hte hpu hnu n m hwa hto k (((drN z i) / 8) % n) (by omega)) mo_X8_canLearn kl_X10_150 [4, 7, 8] [0, 0, 0, 0, 1, 0, 0, 2, 3, 0, 0, 0, 0] rfl (by decide +kernel) rfl rfl (fun _ => Nat.le_of_ble_eq_true rfl) 4 8 rfl rfl (As := [.int (nI (((drN z i) / 8) % n))]) (st := []) (cs' := (0, 0)) rfl rfl rfl rfl dX10_year_106 (fun r_37 u_33 hp_34 ws_36 hw_35 => ?_)
        obtain rfl : r_37 = canF (k (((drN z i) / 8) % n)) dy := hp_34
        have hw_35x : ws_36 = [(x0, .inr (10, [.ref t, .ref d, .ref h, .ref s, .ref o, .ref p, .ref p2, .ref ru, .ref cu, .ref br, .ref bt])), (s, .inr (8, [.ref h, .ref sw, .ref sg, .int day])), (sw, .inl (V.2.2.1, 7, .inl w)), (sg, .inl (V.2.2.1, 7, .inl g)), (o, .inr (8, [.ref h, .ref ow_, .ref og_, .int dy])), (ow_, .inl (V.2.2.1, 7, .inl w1)), (og_, .inl (V.2.2.1, 7, .inl g)), (h, .inr (4, [.ref hk, .ref hfw, .ref hfg, .ref hwb, .ref hld, .ref hte, .ref hpu, .int (nI n), .int hwa, .int (nI m), .ref hnu, .int hto])), (hk, .inl (V.2.2.1, 7, .inl k)), (hwb, .inl (V.2.2.1, 7, .inl wb)), (hld, .inl (V.2.2.1, 9, .inl (nIf ld))), (hte, .inl (V.2.2.1, 9, .inl (nIf te))), (hpu, .inl (V.2.2.1, 9, .inl (nIf pu)))] := hw_35.symm
        clear hw_35; subst hw_35x
        refine g_if_eq X 123 dX10_year_109 (by decide) (fun c109_38 => ?_) (fun c109_38 => ?_)
        · refine g_aload_n X dX10_year_123 rfl ?_
          refine g_get X uwX10 0 rfl rfl 4 (by decide) kl_X10_35 rfl rfl gwX10 dX10_year_124 ?_
          refine g_iconst X (1) dX10_year_127 (by decide) ?_
          refine g_callVv X (c_X8_passDay V o ow_ og_ dy w1 g h hk hfw hfg hwb hld hte hpu hnu n m hwa hto k wb ld te pu 1 (by omega) (by omega) ht) mo_X8_passDay kl_X10_230 [4, 5, 6, 7, 8, 9, 10, 11, 12] [0, 0, 0, 0, 1, 2, 3, 4, 5, 6, 7, 8, 9] rfl (by decide +kernel) rfl rfl (fun _ => Nat.le_of_ble_eq_true rfl) 4 8 rfl rfl (As := [.int 1]) (st := []) (cs' := (0, 0)) rfl rfl rfl rfl dX10_year_128 (fun nw_39 hp_40 ws_42 hw_41 => ?_)
          obtain rfl : nw_39 = dayF k wb ld te pu n m g 1 dy w1 := hp_40
          have hw_41x : ws_42 = [(x0, .inr (10, [.ref t, .ref d, .ref h, .ref s, .ref o, .ref p, .ref p2, .ref ru, .ref cu, .ref br, .ref bt])), (s, .inr (8, [.ref h, .ref sw, .ref sg, .int day])), (sw, .inl (V.2.2.1, 7, .inl w)), (sg, .inl (V.2.2.1, 7, .inl g)), (o, .inr (8, [.ref h, .ref ow_, .ref og_, .int (dy + 1)])), (ow_, .inl (V.2.2.1, 7, .inl (dayF k wb ld te pu n m g 1 dy w1))), (og_, .inl (V.2.2.1, 7, .inl g)), (h, .inr (4, [.ref hk, .ref hfw, .ref hfg, .ref hwb, .ref hld, .ref hte, .ref hpu, .int (nI n), .int hwa, .int (nI m), .ref hnu, .int hto])), (hk, .inl (V.2.2.1, 7, .inl k)), (hwb, .inl (V.2.2.1, 7, .inl wb)), (hld, .inl (V.2.2.1, 9, .inl (nIf ld))), (hte, .inl (V.2.2.1, 9, .inl (nIf te))), (hpu, .inl (V.2.2.1, 9, .inl (nIf pu)))] := hw_41.symm
          clear hw_41; subst hw_41x
          refine g_iinc X (v := nI (i + 1)) (L' := [some (.ref x0), some (.int (nI z)), some (.int (nI v)), some (.int 1), some (.int (nI n)), some (.int (nI (i + 1))), some (.int (nI (drN z i))), some (.int (nI ((drN z i) % n))), some (.int (nI (((drN z i) / 8) % n)))]) dX10_year_131 rfl (nI_addk (by decide)) (by decide) rfl rfl ?_
          refine g_goto X 62 dX10_year_134 (by decide) ?_
          refine g_sub (L' := [some (.ref x0), some (.int (nI z)), some (.int (nI v)), some (.int 1), some (.int (nI n)), some (.int (nI (i + 1))), none, none, none]) ⟨rfl, ⟨rfl, ⟨rfl, ⟨rfl, ⟨rfl, ⟨rfl, trivial⟩⟩⟩⟩⟩⟩ ?_
          exact ih62 (i + 1) (by omega) (dayF k wb ld te pu n m g 1 dy w1) (dy + 1) (by rw [yrF, it_s, ← yrF, ← h6, yrS, ← h7]; simp [c97_27, c97_27n, c109_38]) (by rw [h7, Int32.add_assoc, nI_1])
        · refine g_aload_n X dX10_year_112 rfl ?_
          refine g_get X uwX10 0 rfl rfl 4 (by decide) kl_X10_35 rfl rfl gwX10 dX10_year_113 ?_
          refine g_iload X dX10_year_116 rfl ?_
          refine g_iload X dX10_year_118 rfl ?_
          refine g_callVv X (c_X8_learn V o ow_ og_ dy w1 h hk hfw hfg hwb hld hte hpu hnu n m hwa hto k ((drN z i) % n) (((drN z i) / 8) % n) (by omega) (by omega)) mo_X8_learn kl_X10_153 [4, 5, 7, 8] [0, 0, 0, 0, 1, 2, 0, 3, 4, 0, 0, 0, 0] rfl (by decide +kernel) rfl rfl (fun _ => Nat.le_of_ble_eq_true rfl) 4 8 rfl rfl (As := [.int (nI ((drN z i) % n)), .int (nI (((drN z i) / 8) % n))]) (st := []) (cs' := (0, 0)) rfl rfl rfl rfl dX10_year_120 (fun nw_44 hp_45 ws_47 hw_46 => ?_)
          obtain rfl : nw_44 = learnF k dy ((drN z i) % n) (((drN z i) / 8) % n) w1 := hp_45
          have hw_46x : ws_47 = [(x0, .inr (10, [.ref t, .ref d, .ref h, .ref s, .ref o, .ref p, .ref p2, .ref ru, .ref cu, .ref br, .ref bt])), (s, .inr (8, [.ref h, .ref sw, .ref sg, .int day])), (sw, .inl (V.2.2.1, 7, .inl w)), (sg, .inl (V.2.2.1, 7, .inl g)), (o, .inr (8, [.ref h, .ref ow_, .ref og_, .int dy])), (ow_, .inl (V.2.2.1, 7, .inl (learnF k dy ((drN z i) % n) (((drN z i) / 8) % n) w1))), (og_, .inl (V.2.2.1, 7, .inl g)), (h, .inr (4, [.ref hk, .ref hfw, .ref hfg, .ref hwb, .ref hld, .ref hte, .ref hpu, .int (nI n), .int hwa, .int (nI m), .ref hnu, .int hto])), (hk, .inl (V.2.2.1, 7, .inl k)), (hwb, .inl (V.2.2.1, 7, .inl wb)), (hld, .inl (V.2.2.1, 9, .inl (nIf ld))), (hte, .inl (V.2.2.1, 9, .inl (nIf te))), (hpu, .inl (V.2.2.1, 9, .inl (nIf pu)))] := hw_46.symm
          clear hw_46; subst hw_46x
          refine g_aload_n X dX10_year_123 rfl ?_
          refine g_get X uwX10 0 rfl rfl 4 (by decide) kl_X10_35 rfl rfl gwX10 dX10_year_124 ?_
          refine g_iconst X (1) dX10_year_127 (by decide) ?_
          refine g_callVv X (c_X8_passDay V o ow_ og_ dy (learnF k dy ((drN z i) % n) (((drN z i) / 8) % n) w1) g h hk hfw hfg hwb hld hte hpu hnu n m hwa hto k wb ld te pu 1 (by omega) (by omega) ht) mo_X8_passDay kl_X10_230 [4, 5, 6, 7, 8, 9, 10, 11, 12] [0, 0, 0, 0, 1, 2, 3, 4, 5, 6, 7, 8, 9] rfl (by decide +kernel) rfl rfl (fun _ => Nat.le_of_ble_eq_true rfl) 4 8 rfl rfl (As := [.int 1]) (st := []) (cs' := (0, 0)) rfl rfl rfl rfl dX10_year_128 (fun nw_49 hp_50 ws_52 hw_51 => ?_)
          obtain rfl : nw_49 = dayF k wb ld te pu n m g 1 dy (learnF k dy ((drN z i) % n) (((drN z i) / 8) % n) w1) := hp_50
          have hw_51x : ws_52 = [(x0, .inr (10, [.ref t, .ref d, .ref h, .ref s, .ref o, .ref p, .ref p2, .ref ru, .ref cu, .ref br, .ref bt])), (s, .inr (8, [.ref h, .ref sw, .ref sg, .int day])), (sw, .inl (V.2.2.1, 7, .inl w)), (sg, .inl (V.2.2.1, 7, .inl g)), (o, .inr (8, [.ref h, .ref ow_, .ref og_, .int (dy + 1)])), (ow_, .inl (V.2.2.1, 7, .inl (dayF k wb ld te pu n m g 1 dy (learnF k dy ((drN z i) % n) (((drN z i) / 8) % n) w1)))), (og_, .inl (V.2.2.1, 7, .inl g)), (h, .inr (4, [.ref hk, .ref hfw, .ref hfg, .ref hwb, .ref hld, .ref hte, .ref hpu, .int (nI n), .int hwa, .int (nI m), .ref hnu, .int hto])), (hk, .inl (V.2.2.1, 7, .inl k)), (hwb, .inl (V.2.2.1, 7, .inl wb)), (hld, .inl (V.2.2.1, 9, .inl (nIf ld))), (hte, .inl (V.2.2.1, 9, .inl (nIf te))), (hpu, .inl (V.2.2.1, 9, .inl (nIf pu)))] := hw_51.symm
          clear hw_51; subst hw_51x
          refine g_iinc X (v := nI (i + 1)) (L' := [some (.ref x0), some (.int (nI z)), some (.int (nI v)), some (.int 1), some (.int (nI n)), some (.int (nI (i + 1))), some (.int (nI (drN z i))), some (.int (nI ((drN z i) % n))), some (.int (nI (((drN z i) / 8) % n)))]) dX10_year_131 rfl (nI_addk (by decide)) (by decide) rfl rfl ?_
          refine g_goto X 62 dX10_year_134 (by decide) ?_
          refine g_sub (L' := [some (.ref x0), some (.int (nI z)), some (.int (nI v)), some (.int 1), some (.int (nI n)), some (.int (nI (i + 1))), none, none, none]) ⟨rfl, ⟨rfl, ⟨rfl, ⟨rfl, ⟨rfl, ⟨rfl, trivial⟩⟩⟩⟩⟩⟩ ?_
          exact ih62 (i + 1) (by omega) (dayF k wb ld te pu n m g 1 dy (learnF k dy ((drN z i) % n) (((drN z i) / 8) % n) w1)) (dy + 1) (by rw [yrF, it_s, ← yrF, ← h6, yrS, ← h7]; simp [c97_27, c97_27n, c109_38]) (by rw [h7, Int32.add_assoc, nI_1])
  exact loop62_13 v 0 (by omega) w day rfl (by rw [nI_0, Int32.add_zero])

set_option maxHeartbeats 4000000 in
set_option maxRecDepth 100000 in
theorem m_count_0 (V : gV) (x0 : Nat) (t : Nat) (d : Nat) (h : Nat) (s : Nat) (o : Nat) (p : Nat) (p2 : Nat) (ru : Nat) (cu : Nat) (br : Nat) (bt : Nat) (hk : Nat) (hfw : Nat) (hfg : Nat) (hwb : Nat) (hld : Nat) (hte : Nat) (hpu : Nat) (hnu : Nat) (n : Nat) (m : Nat) (hwa : Int32) (hto : Int32)  : Ki V yX10_count cX10_count 2 .int ({ frames := 0, cells := 0, slots := 0, locals := 0 }) [.ref x0, .int 0] [(x0, .inr (10, [.ref t, .ref d, .ref h, .ref s, .ref o, .ref p, .ref p2, .ref ru, .ref cu, .ref br, .ref bt])), (h, .inr (4, [.ref hk, .ref hfw, .ref hfg, .ref hwb, .ref hld, .ref hte, .ref hpu, .int (nI n), .int hwa, .int (nI m), .ref hnu, .int hto]))] (fun (r : Int32) (u : Unit) => r = nI n) (fun u => [(x0, .inr (10, [.ref t, .ref d, .ref h, .ref s, .ref o, .ref p, .ref p2, .ref ru, .ref cu, .ref br, .ref bt])), (h, .inr (4, [.ref hk, .ref hfw, .ref hfg, .ref hwb, .ref hld, .ref hte, .ref hpu, .int (nI n), .int hwa, .int (nI m), .ref hnu, .int hto]))]) := by
  refine Ki.of [some (.ref x0), some (.int 0)] (by decide) (Nat.le_of_ble_eq_true rfl) rfl rfl ?_
  intro Z X E
  have X : gX V Z RX10 cX10_count 2 ({ frames := 0, cells := 0, slots := 0, locals := 0 }) := X
  refine g_iload_n X dX10_count_0 rfl ?_
  refine g_tableIn X 52 dX10_count_1 (off := 51) (by decide) (by decide) (by decide) (by decide) ?_
  refine g_aload_n X dX10_count_52 rfl ?_
  refine g_get X uwX10 0 rfl rfl 2 (by decide) kl_X10_23 rfl rfl gwX10 dX10_count_53 ?_
  refine g_getN X uwX4 1 rfl rfl 7 (by decide) kl_X10_104 rfl rfl gwX4 dX10_count_56 ?_
  exact g_iret X E dX10_count_59 () (nI n) (by first | rfl | (simp []; done)) rfl

set_option maxHeartbeats 4000000 in
set_option maxRecDepth 100000 in
theorem m_count_1 (V : gV) (x0 : Nat) (t : Nat) (d : Nat) (h : Nat) (s : Nat) (o : Nat) (p : Nat) (p2 : Nat) (ru : Nat) (cu : Nat) (br : Nat) (bt : Nat) (hk : Nat) (hfw : Nat) (hfg : Nat) (hwb : Nat) (hld : Nat) (hte : Nat) (hpu : Nat) (hnu : Nat) (n : Nat) (m : Nat) (hwa : Int32) (hto : Int32)  : Ki V yX10_count cX10_count 2 .int ({ frames := 0, cells := 0, slots := 0, locals := 0 }) [.ref x0, .int 1] [(x0, .inr (10, [.ref t, .ref d, .ref h, .ref s, .ref o, .ref p, .ref p2, .ref ru, .ref cu, .ref br, .ref bt])), (h, .inr (4, [.ref hk, .ref hfw, .ref hfg, .ref hwb, .ref hld, .ref hte, .ref hpu, .int (nI n), .int hwa, .int (nI m), .ref hnu, .int hto]))] (fun (r : Int32) (u : Unit) => r = hwa) (fun u => [(x0, .inr (10, [.ref t, .ref d, .ref h, .ref s, .ref o, .ref p, .ref p2, .ref ru, .ref cu, .ref br, .ref bt])), (h, .inr (4, [.ref hk, .ref hfw, .ref hfg, .ref hwb, .ref hld, .ref hte, .ref hpu, .int (nI n), .int hwa, .int (nI m), .ref hnu, .int hto]))]) := by
  refine Ki.of [some (.ref x0), some (.int 1)] (by decide) (Nat.le_of_ble_eq_true rfl) rfl rfl ?_
  intro Z X E
  have X : gX V Z RX10 cX10_count 2 ({ frames := 0, cells := 0, slots := 0, locals := 0 }) := X
  refine g_iload_n X dX10_count_0 rfl ?_
  refine g_tableIn X 60 dX10_count_1 (off := 59) (by decide) (by decide) (by decide) (by decide) ?_
  refine g_aload_n X dX10_count_60 rfl ?_
  refine g_get X uwX10 0 rfl rfl 2 (by decide) kl_X10_23 rfl rfl gwX10 dX10_count_61 ?_
  refine g_getN X uwX4 1 rfl rfl 8 (by decide) kl_X10_244 rfl rfl gwX4 dX10_count_64 ?_
  exact g_iret X E dX10_count_67 () hwa (by first | rfl | (simp []; done)) rfl

set_option maxHeartbeats 4000000 in
set_option maxRecDepth 100000 in
theorem m_count_2 (V : gV) (x0 : Nat) (t : Nat) (d : Nat) (h : Nat) (s : Nat) (o : Nat) (p : Nat) (p2 : Nat) (ru : Nat) (cu : Nat) (br : Nat) (bt : Nat) (hk : Nat) (hfw : Nat) (hfg : Nat) (hwb : Nat) (hld : Nat) (hte : Nat) (hpu : Nat) (hnu : Nat) (n : Nat) (m : Nat) (hwa : Int32) (hto : Int32)  : Ki V yX10_count cX10_count 2 .int ({ frames := 0, cells := 0, slots := 0, locals := 0 }) [.ref x0, .int 2] [(x0, .inr (10, [.ref t, .ref d, .ref h, .ref s, .ref o, .ref p, .ref p2, .ref ru, .ref cu, .ref br, .ref bt])), (h, .inr (4, [.ref hk, .ref hfw, .ref hfg, .ref hwb, .ref hld, .ref hte, .ref hpu, .int (nI n), .int hwa, .int (nI m), .ref hnu, .int hto]))] (fun (r : Int32) (u : Unit) => r = nI m) (fun u => [(x0, .inr (10, [.ref t, .ref d, .ref h, .ref s, .ref o, .ref p, .ref p2, .ref ru, .ref cu, .ref br, .ref bt])), (h, .inr (4, [.ref hk, .ref hfw, .ref hfg, .ref hwb, .ref hld, .ref hte, .ref hpu, .int (nI n), .int hwa, .int (nI m), .ref hnu, .int hto]))]) := by
  refine Ki.of [some (.ref x0), some (.int 2)] (by decide) (Nat.le_of_ble_eq_true rfl) rfl rfl ?_
  intro Z X E
  have X : gX V Z RX10 cX10_count 2 ({ frames := 0, cells := 0, slots := 0, locals := 0 }) := X
  refine g_iload_n X dX10_count_0 rfl ?_
  refine g_tableIn X 68 dX10_count_1 (off := 67) (by decide) (by decide) (by decide) (by decide) ?_
  refine g_aload_n X dX10_count_68 rfl ?_
  refine g_get X uwX10 0 rfl rfl 2 (by decide) kl_X10_23 rfl rfl gwX10 dX10_count_69 ?_
  refine g_getN X uwX4 1 rfl rfl 9 (by decide) kl_X10_247 rfl rfl gwX4 dX10_count_72 ?_
  exact g_iret X E dX10_count_75 () (nI m) (by first | rfl | (simp []; done)) rfl

set_option maxHeartbeats 4000000 in
set_option maxRecDepth 100000 in
theorem m_count_3 (V : gV) (x0 : Nat) (t : Nat) (d : Nat) (h : Nat) (s : Nat) (o : Nat) (p : Nat) (p2 : Nat) (ru : Nat) (cu : Nat) (br : Nat) (bt : Nat) (sw : Nat) (sg : Nat) (day : Int32)  : Ki V yX10_count cX10_count 2 .int ({ frames := 0, cells := 0, slots := 0, locals := 0 }) [.ref x0, .int 3] [(x0, .inr (10, [.ref t, .ref d, .ref h, .ref s, .ref o, .ref p, .ref p2, .ref ru, .ref cu, .ref br, .ref bt])), (s, .inr (8, [.ref h, .ref sw, .ref sg, .int day]))] (fun (r : Int32) (u : Unit) => r = day) (fun u => [(x0, .inr (10, [.ref t, .ref d, .ref h, .ref s, .ref o, .ref p, .ref p2, .ref ru, .ref cu, .ref br, .ref bt])), (s, .inr (8, [.ref h, .ref sw, .ref sg, .int day]))]) := by
  refine Ki.of [some (.ref x0), some (.int 3)] (by decide) (Nat.le_of_ble_eq_true rfl) rfl rfl ?_
  intro Z X E
  have X : gX V Z RX10 cX10_count 2 ({ frames := 0, cells := 0, slots := 0, locals := 0 }) := X
  refine g_iload_n X dX10_count_0 rfl ?_
  refine g_tableIn X 76 dX10_count_1 (off := 75) (by decide) (by decide) (by decide) (by decide) ?_
  refine g_aload_n X dX10_count_76 rfl ?_
  refine g_get X uwX10 0 rfl rfl 3 (by decide) kl_X10_31 rfl rfl gwX10 dX10_count_77 ?_
  refine g_getN X uwX8 1 rfl rfl 3 (by decide) kl_X10_147 rfl rfl gwX8 dX10_count_80 ?_
  exact g_iret X E dX10_count_83 () day (by first | rfl | (simp []; done)) rfl

set_option maxHeartbeats 4000000 in
set_option maxRecDepth 100000 in
theorem m_count_4 (V : gV) (x0 : Nat) (t : Nat) (d : Nat) (h : Nat) (s : Nat) (o : Nat) (p : Nat) (p2 : Nat) (ru : Nat) (cu : Nat) (br : Nat) (bt : Nat) (sw : Nat) (sg : Nat) (day : Int32) (w : Nat → Int32) (hk : Nat) (hfw : Nat) (hfg : Nat) (hwb : Nat) (hld : Nat) (hte : Nat) (hpu : Nat) (hnu : Nat) (n : Nat) (m : Nat) (hwa : Int32) (hto : Int32) (hn : n ≤ 7) : Ki V yX10_count cX10_count 2 .int ({ frames := 3, cells := 0, slots := 0, locals := 64 }) [.ref x0, .int 4] [(x0, .inr (10, [.ref t, .ref d, .ref h, .ref s, .ref o, .ref p, .ref p2, .ref ru, .ref cu, .ref br, .ref bt])), (s, .inr (8, [.ref h, .ref sw, .ref sg, .int day])), (sw, .inl (V.2.2.1, 7, .inl w)), (h, .inr (4, [.ref hk, .ref hfw, .ref hfg, .ref hwb, .ref hld, .ref hte, .ref hpu, .int (nI n), .int hwa, .int (nI m), .ref hnu, .int hto]))] (fun (r : Int32) (u : Unit) => r = nI (rightF n w)) (fun u => [(x0, .inr (10, [.ref t, .ref d, .ref h, .ref s, .ref o, .ref p, .ref p2, .ref ru, .ref cu, .ref br, .ref bt])), (s, .inr (8, [.ref h, .ref sw, .ref sg, .int day])), (sw, .inl (V.2.2.1, 7, .inl w)), (h, .inr (4, [.ref hk, .ref hfw, .ref hfg, .ref hwb, .ref hld, .ref hte, .ref hpu, .int (nI n), .int hwa, .int (nI m), .ref hnu, .int hto]))]) := by
  refine Ki.of [some (.ref x0), some (.int 4)] (by decide) (Nat.le_of_ble_eq_true rfl) rfl rfl ?_
  intro Z X E
  have X : gX V Z RX10 cX10_count 2 ({ frames := 3, cells := 0, slots := 0, locals := 64 }) := X
  refine g_iload_n X dX10_count_0 rfl ?_
  refine g_tableIn X 84 dX10_count_1 (off := 83) (by decide) (by decide) (by decide) (by decide) ?_
  refine g_aload_n X dX10_count_84 rfl ?_
  refine g_get X uwX10 0 rfl rfl 3 (by decide) kl_X10_31 rfl rfl gwX10 dX10_count_85 ?_
  refine g_callVi X (c_X8_rightOnes V s sw sg day w h hk hfw hfg hwb hld hte hpu hnu n m hwa hto (by omega)) mo_X8_rightOnes kl_X10_241 [1, 2, 3] [0, 1, 2, 3] rfl (by decide +kernel) rfl rfl (fun _ => Nat.le_of_ble_eq_true rfl) 1 8 rfl rfl (As := []) (st := []) (cs' := (0, 0)) rfl rfl rfl rfl dX10_count_88 (fun r_5 u_1 hp_2 ws_4 hw_3 => ?_)
  obtain rfl : r_5 = nI (rightF n w) := hp_2
  have hw_3x : ws_4 = [(x0, .inr (10, [.ref t, .ref d, .ref h, .ref s, .ref o, .ref p, .ref p2, .ref ru, .ref cu, .ref br, .ref bt])), (s, .inr (8, [.ref h, .ref sw, .ref sg, .int day])), (sw, .inl (V.2.2.1, 7, .inl w)), (h, .inr (4, [.ref hk, .ref hfw, .ref hfg, .ref hwb, .ref hld, .ref hte, .ref hpu, .int (nI n), .int hwa, .int (nI m), .ref hnu, .int hto]))] := hw_3.symm
  clear hw_3; subst hw_3x
  exact g_iret X E dX10_count_91 () (nI (rightF n w)) (by first | rfl | (simp []; done)) rfl

set_option maxHeartbeats 4000000 in
set_option maxRecDepth 100000 in
theorem m_count_5 (V : gV) (x0 : Nat) (t : Nat) (d : Nat) (h : Nat) (s : Nat) (o : Nat) (p : Nat) (p2 : Nat) (ru : Nat) (cu : Nat) (br : Nat) (bt : Nat) (ruc : Nat) (rum : Nat) (z : Nat) (rc : Nat → Nat) (rm : Nat → Int32)  : Ki V yX10_count cX10_count 2 .int ({ frames := 0, cells := 0, slots := 0, locals := 0 }) [.ref x0, .int 5] [(x0, .inr (10, [.ref t, .ref d, .ref h, .ref s, .ref o, .ref p, .ref p2, .ref ru, .ref cu, .ref br, .ref bt])), (ru, .inr (6, [.ref ruc, .ref rum, .int (nI z)])), (ruc, .inl (V.2.2.1, 6, .inl (nIf rc))), (rum, .inl (V.2.2.1, 6, .inl rm))] (fun (r : Int32) (u : Unit) => r = nI z) (fun u => [(x0, .inr (10, [.ref t, .ref d, .ref h, .ref s, .ref o, .ref p, .ref p2, .ref ru, .ref cu, .ref br, .ref bt])), (ru, .inr (6, [.ref ruc, .ref rum, .int (nI z)])), (ruc, .inl (V.2.2.1, 6, .inl (nIf rc))), (rum, .inl (V.2.2.1, 6, .inl rm))]) := by
  refine Ki.of [some (.ref x0), some (.int 5)] (by decide) (Nat.le_of_ble_eq_true rfl) rfl rfl ?_
  intro Z X E
  have X : gX V Z RX10 cX10_count 2 ({ frames := 0, cells := 0, slots := 0, locals := 0 }) := X
  refine g_iload_n X dX10_count_0 rfl ?_
  refine g_tableIn X 92 dX10_count_1 (off := 91) (by decide) (by decide) (by decide) (by decide) ?_
  refine g_aload_n X dX10_count_92 rfl ?_
  refine g_get X uwX10 0 rfl rfl 7 (by decide) kl_X10_53 rfl rfl gwX10 dX10_count_93 ?_
  refine g_getN X uwX6 1 rfl rfl 2 (by decide) kl_X10_107 rfl rfl gwX6 dX10_count_96 ?_
  exact g_iret X E dX10_count_99 () (nI z) (by first | rfl | (simp []; done)) rfl

set_option maxHeartbeats 4000000 in
set_option maxRecDepth 100000 in
theorem m_count_6 (V : gV) (x0 : Nat) (t : Nat) (d : Nat) (h : Nat) (s : Nat) (o : Nat) (p : Nat) (p2 : Nat) (ru : Nat) (cu : Nat) (br : Nat) (bt : Nat) (pl : Nat) (q : Int32)  : Ki V yX10_count cX10_count 2 .int ({ frames := 0, cells := 0, slots := 0, locals := 0 }) [.ref x0, .int 6] [(x0, .inr (10, [.ref t, .ref d, .ref h, .ref s, .ref o, .ref p, .ref p2, .ref ru, .ref cu, .ref br, .ref bt])), (p, .inr (7, [.ref pl, .int q]))] (fun (r : Int32) (u : Unit) => r = q) (fun u => [(x0, .inr (10, [.ref t, .ref d, .ref h, .ref s, .ref o, .ref p, .ref p2, .ref ru, .ref cu, .ref br, .ref bt])), (p, .inr (7, [.ref pl, .int q]))]) := by
  refine Ki.of [some (.ref x0), some (.int 6)] (by decide) (Nat.le_of_ble_eq_true rfl) rfl rfl ?_
  intro Z X E
  have X : gX V Z RX10 cX10_count 2 ({ frames := 0, cells := 0, slots := 0, locals := 0 }) := X
  refine g_iload_n X dX10_count_0 rfl ?_
  refine g_tableIn X 100 dX10_count_1 (off := 99) (by decide) (by decide) (by decide) (by decide) ?_
  refine g_aload_n X dX10_count_100 rfl ?_
  refine g_get X uwX10 0 rfl rfl 5 (by decide) kl_X10_43 rfl rfl gwX10 dX10_count_101 ?_
  refine g_getN X uwX7 1 rfl rfl 1 (by decide) kl_X10_110 rfl rfl gwX7 dX10_count_104 ?_
  exact g_iret X E dX10_count_107 () q (by first | rfl | (simp []; done)) rfl

set_option maxHeartbeats 4000000 in
set_option maxRecDepth 100000 in
theorem m_count_7 (V : gV) (x0 : Nat) (t : Nat) (d : Nat) (h : Nat) (s : Nat) (o : Nat) (p : Nat) (p2 : Nat) (ru : Nat) (cu : Nat) (br : Nat) (bt : Nat) (p2l : Nat) (q2 : Int32)  : Ki V yX10_count cX10_count 2 .int ({ frames := 0, cells := 0, slots := 0, locals := 0 }) [.ref x0, .int 7] [(x0, .inr (10, [.ref t, .ref d, .ref h, .ref s, .ref o, .ref p, .ref p2, .ref ru, .ref cu, .ref br, .ref bt])), (p2, .inr (7, [.ref p2l, .int q2]))] (fun (r : Int32) (u : Unit) => r = q2) (fun u => [(x0, .inr (10, [.ref t, .ref d, .ref h, .ref s, .ref o, .ref p, .ref p2, .ref ru, .ref cu, .ref br, .ref bt])), (p2, .inr (7, [.ref p2l, .int q2]))]) := by
  refine Ki.of [some (.ref x0), some (.int 7)] (by decide) (Nat.le_of_ble_eq_true rfl) rfl rfl ?_
  intro Z X E
  have X : gX V Z RX10 cX10_count 2 ({ frames := 0, cells := 0, slots := 0, locals := 0 }) := X
  refine g_iload_n X dX10_count_0 rfl ?_
  refine g_tableIn X 108 dX10_count_1 (off := 107) (by decide) (by decide) (by decide) (by decide) ?_
  refine g_aload_n X dX10_count_108 rfl ?_
  refine g_get X uwX10 0 rfl rfl 6 (by decide) kl_X10_47 rfl rfl gwX10 dX10_count_109 ?_
  refine g_getN X uwX7 1 rfl rfl 1 (by decide) kl_X10_110 rfl rfl gwX7 dX10_count_112 ?_
  exact g_iret X E dX10_count_115 () q2 (by first | rfl | (simp []; done)) rfl

set_option maxHeartbeats 4000000 in
set_option maxRecDepth 100000 in
theorem m_count_8 (V : gV) (x0 : Nat) (t : Nat) (d : Nat) (h : Nat) (s : Nat) (o : Nat) (p : Nat) (p2 : Nat) (ru : Nat) (cu : Nat) (br : Nat) (bt : Nat) (tl : Nat) (tf : Nat → Nat) (x : Nat)  : Ki V yX10_count cX10_count 2 .int ({ frames := 0, cells := 0, slots := 0, locals := 0 }) [.ref x0, .int 8] [(x0, .inr (10, [.ref t, .ref d, .ref h, .ref s, .ref o, .ref p, .ref p2, .ref ru, .ref cu, .ref br, .ref bt])), (t, .inr (9, [.ref tl, .int (nI x)])), (tl, .inl (V.2.2.1, 200, .inl (nIf tf)))] (fun (r : Int32) (u : Unit) => r = nI x) (fun u => [(x0, .inr (10, [.ref t, .ref d, .ref h, .ref s, .ref o, .ref p, .ref p2, .ref ru, .ref cu, .ref br, .ref bt])), (t, .inr (9, [.ref tl, .int (nI x)])), (tl, .inl (V.2.2.1, 200, .inl (nIf tf)))]) := by
  refine Ki.of [some (.ref x0), some (.int 8)] (by decide) (Nat.le_of_ble_eq_true rfl) rfl rfl ?_
  intro Z X E
  have X : gX V Z RX10 cX10_count 2 ({ frames := 0, cells := 0, slots := 0, locals := 0 }) := X
  refine g_iload_n X dX10_count_0 rfl ?_
  refine g_tableIn X 116 dX10_count_1 (off := 115) (by decide) (by decide) (by decide) (by decide) ?_
  refine g_aload_n X dX10_count_116 rfl ?_
  refine g_get X uwX10 0 rfl rfl 0 (by decide) kl_X10_10 rfl rfl gwX10 dX10_count_117 ?_
  refine g_getN X uwX9 1 rfl rfl 1 (by decide) kl_X10_101 rfl rfl gwX9 dX10_count_120 ?_
  exact g_iret X E dX10_count_123 () (nI x) (by first | rfl | (simp []; done)) rfl

set_option maxHeartbeats 4000000 in
set_option maxRecDepth 100000 in
theorem m_count_bad (V : gV) (x0 : Nat) (t : Nat) (d : Nat) (h : Nat) (s : Nat) (o : Nat) (p : Nat) (p2 : Nat) (ru : Nat) (cu : Nat) (br : Nat) (bt : Nat) (v : Int32) (hbad : v.toInt < 0 ∨ 8 < v.toInt) : Ki V yX10_count cX10_count 2 .int ({ frames := 0, cells := 0, slots := 0, locals := 0 }) [.ref x0, .int v] [(x0, .inr (10, [.ref t, .ref d, .ref h, .ref s, .ref o, .ref p, .ref p2, .ref ru, .ref cu, .ref br, .ref bt]))] (fun (r : Int32) (u : Unit) => r = -1) (fun u => [(x0, .inr (10, [.ref t, .ref d, .ref h, .ref s, .ref o, .ref p, .ref p2, .ref ru, .ref cu, .ref br, .ref bt]))]) := by
  refine Ki.of [some (.ref x0), some (.int v)] (by decide) (Nat.le_of_ble_eq_true rfl) rfl rfl ?_
  intro Z X E
  have X : gX V Z RX10 cX10_count 2 ({ frames := 0, cells := 0, slots := 0, locals := 0 }) := X
  refine g_iload_n X dX10_count_0 rfl ?_
  refine g_tableOut X 124 dX10_count_1 hbad (by decide) ?_
  refine g_iconst X (-1) dX10_count_124 (by decide) ?_
  exact g_iret X E dX10_count_125 () (-1) (by first | rfl | (simp []; done)) rfl
