-- the law: its loop
set_option maxHeartbeats 4000000 in
set_option maxRecDepth 100000 in
theorem law_loop (V : gV) (Z : gZ) (x0 mm b ln : Nat) (xs : Nat → Int32) (A e ew eg e2 ew2 eg2 B : Nat → Nat) (X : gX V Z RL code 4 room_1) (S : gSc Z b ln xs) (EL : gEL Z b) (hln : ln ≤ 320) : ∀ (D i : Nat), i ≤ 400 → ln - i < D → NX V Z x0 mm b A e ew eg e2 ew2 eg2 B 18 i := by
  intro D
  induction D with
  | zero => intro i _ h; exact absurd h (Nat.not_lt_zero _)
  | succ D ih =>
    intro i hi4 hD
    unfold NX
    intro x n m q q2 z mn bmn day oday hto hwa dn_ dwa_ dm_ dto_ le c1 c2 ls bls po fa rcl rle fm dayy w g ow og rm mf lf dkf dfwf dfgf dwbf k fwf fgf wb rwb wy gy tr se fo ore bo mat bm so zd zd2 zdy zd2y tf rc ch bd od ro bch bbd dldf dtef dpuf dnuf ld te pu nuh tfy nuf kr kw kg rl0 rl1 rl2 zw zg zw2 zg2 zwy zgy zw2y zg2y hLI
    refine g_iload_n X dL_law_18 rfl ?_
    refine g_aload_n X dL_law_19 rfl ?_
    refine g_slen X S dL_law_20 ?_
    refine g_iconst X (5) dL_law_21 (by decide) ?_
    refine g_isub X dL_law_22 ?_
    refine g_icmp_gt X 850 dL_law_23 (by decide) (fun c9 => ?_) (fun c9 => ?_)
    · refine g_iconst X (1) dL_law_850 (by decide) ?_
      exact g_lend X EL (Nat.le_of_ble_eq_true rfl) (Nat.le_of_ble_eq_true rfl) dL_law_851
    · have hi : i + 5 ≤ ln := law_ge hln hi4 c9
      have nx : NX V Z x0 mm b A e ew eg e2 ew2 eg2 B 844 i := by
        unfold NX
        intro x n m q q2 z mn bmn day oday hto hwa dn_ dwa_ dm_ dto_ le c1 c2 ls bls po fa rcl rle fm dayy w g ow og rm mf lf dkf dfwf dfgf dwbf k fwf fgf wb rwb wy gy tr se fo ore bo mat bm so zd zd2 zdy zd2y tf rc ch bd od ro bch bbd dldf dtef dpuf dnuf ld te pu nuh tfy nuf kr kw kg rl0 rl1 rl2 zw zg zw2 zg2 zwy zgy zw2y zg2y hLI
        refine g_iinc X (v := nI (i + 5)) (L' := [some (.ref b), some (.ref x0), some (.ref mm), some (.int (nI (i + 5)))]) dL_law_844 rfl (nI_addk (by decide)) (by decide) rfl rfl ?_
        refine g_goto X 18 dL_law_847 (by decide) ?_
        exact ih (i + 5) (by omega) (by omega) x n m q q2 z mn bmn day oday hto hwa dn_ dwa_ dm_ dto_ le c1 c2 ls bls po fa rcl rle fm dayy w g ow og rm mf lf dkf dfwf dfgf dwbf k fwf fgf wb rwb wy gy tr se fo ore bo mat bm so zd zd2 zdy zd2y tf rc ch bd od ro bch bbd dldf dtef dpuf dnuf ld te pu nuh tfy nuf kr kw kg rl0 rl1 rl2 zw zg zw2 zg2 zwy zgy zw2y zg2y hLI
      refine g_aload_n X dL_law_26 rfl ?_
      refine g_iload_n X dL_law_27 rfl ?_
      refine g_sld X S (i := i) rfl (by omega) (by omega) dL_law_28 ?_
      refine g_bipush X (31) dL_law_29 (by decide) ?_
      refine g_iand X dL_law_31 ?_
      obtain ⟨j, hj, ej⟩ := pk_andE (xs i) (m := 31) 5 (by decide)
      refine g_toe (x' := nI j) ej ?_
      clear ej
      rcases (show j = 0 ∨ j = 1 ∨ j = 2 ∨ j = 3 ∨ j = 4 ∨ j = 5 ∨ j = 6 ∨ j = 7 ∨ j = 8 ∨ j = 9 ∨ j = 10 ∨ j = 11 ∨ j = 12 ∨ j = 13 ∨ j = 14 ∨ j = 15 ∨ j = 16 ∨ j = 17 ∨ j = 18 ∨ j = 19 ∨ j = 20 ∨ j = 21 ∨ j = 22 ∨ j = 23 ∨ j = 24 ∨ j = 25 ∨ j = 26 ∨ j = 27 ∨ 28 ≤ j by omega) with rfl | rfl | rfl | rfl | rfl | rfl | rfl | rfl | rfl | rfl | rfl | rfl | rfl | rfl | rfl | rfl | rfl | rfl | rfl | rfl | rfl | rfl | rfl | rfl | rfl | rfl | rfl | rfl | hj
      · refine g_tableIn X 160 dL_law_32 (off := 128) (by decide) (by decide) (by decide) (by decide) ?_
        exact arm_0 V Z x0 mm b i ln xs A e ew eg e2 ew2 eg2 B x n m q q2 z mn bmn day oday hto hwa dn_ dwa_ dm_ dto_ le c1 c2 ls bls po fa rcl rle fm dayy w g ow og rm mf lf dkf dfwf dfgf dwbf k fwf fgf wb rwb wy gy tr se fo ore bo mat bm so zd zd2 zdy zd2y tf rc ch bd od ro bch bbd dldf dtef dpuf dnuf ld te pu nuh tfy nuf kr kw kg rl0 rl1 rl2 zw zg zw2 zg2 zwy zgy zw2y zg2y X S hi hln hLI nx
      · refine g_tableIn X 183 dL_law_32 (off := 151) (by decide) (by decide) (by decide) (by decide) ?_
        exact arm_1 V Z x0 mm b i ln xs A e ew eg e2 ew2 eg2 B x n m q q2 z mn bmn day oday hto hwa dn_ dwa_ dm_ dto_ le c1 c2 ls bls po fa rcl rle fm dayy w g ow og rm mf lf dkf dfwf dfgf dwbf k fwf fgf wb rwb wy gy tr se fo ore bo mat bm so zd zd2 zdy zd2y tf rc ch bd od ro bch bbd dldf dtef dpuf dnuf ld te pu nuh tfy nuf kr kw kg rl0 rl1 rl2 zw zg zw2 zg2 zwy zgy zw2y zg2y X S hi hln hLI nx
      · refine g_tableIn X 196 dL_law_32 (off := 164) (by decide) (by decide) (by decide) (by decide) ?_
        exact arm_2 V Z x0 mm b i ln xs A e ew eg e2 ew2 eg2 B x n m q q2 z mn bmn day oday hto hwa dn_ dwa_ dm_ dto_ le c1 c2 ls bls po fa rcl rle fm dayy w g ow og rm mf lf dkf dfwf dfgf dwbf k fwf fgf wb rwb wy gy tr se fo ore bo mat bm so zd zd2 zdy zd2y tf rc ch bd od ro bch bbd dldf dtef dpuf dnuf ld te pu nuh tfy nuf kr kw kg rl0 rl1 rl2 zw zg zw2 zg2 zwy zgy zw2y zg2y X S hi hln hLI nx
      · refine g_tableIn X 209 dL_law_32 (off := 177) (by decide) (by decide) (by decide) (by decide) ?_
        exact arm_3 V Z x0 mm b i ln xs A e ew eg e2 ew2 eg2 B x n m q q2 z mn bmn day oday hto hwa dn_ dwa_ dm_ dto_ le c1 c2 ls bls po fa rcl rle fm dayy w g ow og rm mf lf dkf dfwf dfgf dwbf k fwf fgf wb rwb wy gy tr se fo ore bo mat bm so zd zd2 zdy zd2y tf rc ch bd od ro bch bbd dldf dtef dpuf dnuf ld te pu nuh tfy nuf kr kw kg rl0 rl1 rl2 zw zg zw2 zg2 zwy zgy zw2y zg2y X S hi hln hLI nx
      · refine g_tableIn X 222 dL_law_32 (off := 190) (by decide) (by decide) (by decide) (by decide) ?_
        exact arm_4 V Z x0 mm b i ln xs A e ew eg e2 ew2 eg2 B x n m q q2 z mn bmn day oday hto hwa dn_ dwa_ dm_ dto_ le c1 c2 ls bls po fa rcl rle fm dayy w g ow og rm mf lf dkf dfwf dfgf dwbf k fwf fgf wb rwb wy gy tr se fo ore bo mat bm so zd zd2 zdy zd2y tf rc ch bd od ro bch bbd dldf dtef dpuf dnuf ld te pu nuh tfy nuf kr kw kg rl0 rl1 rl2 zw zg zw2 zg2 zwy zgy zw2y zg2y X S hi hln hLI nx
      · refine g_tableIn X 255 dL_law_32 (off := 223) (by decide) (by decide) (by decide) (by decide) ?_
        exact arm_5 V Z x0 mm b i ln xs A e ew eg e2 ew2 eg2 B x n m q q2 z mn bmn day oday hto hwa dn_ dwa_ dm_ dto_ le c1 c2 ls bls po fa rcl rle fm dayy w g ow og rm mf lf dkf dfwf dfgf dwbf k fwf fgf wb rwb wy gy tr se fo ore bo mat bm so zd zd2 zdy zd2y tf rc ch bd od ro bch bbd dldf dtef dpuf dnuf ld te pu nuh tfy nuf kr kw kg rl0 rl1 rl2 zw zg zw2 zg2 zwy zgy zw2y zg2y X S hi hln hLI nx
      · refine g_tableIn X 288 dL_law_32 (off := 256) (by decide) (by decide) (by decide) (by decide) ?_
        exact arm_6 V Z x0 mm b i ln xs A e ew eg e2 ew2 eg2 B x n m q q2 z mn bmn day oday hto hwa dn_ dwa_ dm_ dto_ le c1 c2 ls bls po fa rcl rle fm dayy w g ow og rm mf lf dkf dfwf dfgf dwbf k fwf fgf wb rwb wy gy tr se fo ore bo mat bm so zd zd2 zdy zd2y tf rc ch bd od ro bch bbd dldf dtef dpuf dnuf ld te pu nuh tfy nuf kr kw kg rl0 rl1 rl2 zw zg zw2 zg2 zwy zgy zw2y zg2y X S hi hln hLI nx
      · refine g_tableIn X 301 dL_law_32 (off := 269) (by decide) (by decide) (by decide) (by decide) ?_
        exact arm_7 V Z x0 mm b i ln xs A e ew eg e2 ew2 eg2 B x n m q q2 z mn bmn day oday hto hwa dn_ dwa_ dm_ dto_ le c1 c2 ls bls po fa rcl rle fm dayy w g ow og rm mf lf dkf dfwf dfgf dwbf k fwf fgf wb rwb wy gy tr se fo ore bo mat bm so zd zd2 zdy zd2y tf rc ch bd od ro bch bbd dldf dtef dpuf dnuf ld te pu nuh tfy nuf kr kw kg rl0 rl1 rl2 zw zg zw2 zg2 zwy zgy zw2y zg2y X S hi hln hLI nx
      · refine g_tableIn X 324 dL_law_32 (off := 292) (by decide) (by decide) (by decide) (by decide) ?_
        exact arm_8 V Z x0 mm b i ln xs A e ew eg e2 ew2 eg2 B x n m q q2 z mn bmn day oday hto hwa dn_ dwa_ dm_ dto_ le c1 c2 ls bls po fa rcl rle fm dayy w g ow og rm mf lf dkf dfwf dfgf dwbf k fwf fgf wb rwb wy gy tr se fo ore bo mat bm so zd zd2 zdy zd2y tf rc ch bd od ro bch bbd dldf dtef dpuf dnuf ld te pu nuh tfy nuf kr kw kg rl0 rl1 rl2 zw zg zw2 zg2 zwy zgy zw2y zg2y X S hi hln hLI nx
      · refine g_tableIn X 357 dL_law_32 (off := 325) (by decide) (by decide) (by decide) (by decide) ?_
        exact arm_9 V Z x0 mm b i ln xs A e ew eg e2 ew2 eg2 B x n m q q2 z mn bmn day oday hto hwa dn_ dwa_ dm_ dto_ le c1 c2 ls bls po fa rcl rle fm dayy w g ow og rm mf lf dkf dfwf dfgf dwbf k fwf fgf wb rwb wy gy tr se fo ore bo mat bm so zd zd2 zdy zd2y tf rc ch bd od ro bch bbd dldf dtef dpuf dnuf ld te pu nuh tfy nuf kr kw kg rl0 rl1 rl2 zw zg zw2 zg2 zwy zgy zw2y zg2y X S hi hln hLI nx
      · refine g_tableIn X 380 dL_law_32 (off := 348) (by decide) (by decide) (by decide) (by decide) ?_
        exact arm_10 V Z x0 mm b i ln xs A e ew eg e2 ew2 eg2 B x n m q q2 z mn bmn day oday hto hwa dn_ dwa_ dm_ dto_ le c1 c2 ls bls po fa rcl rle fm dayy w g ow og rm mf lf dkf dfwf dfgf dwbf k fwf fgf wb rwb wy gy tr se fo ore bo mat bm so zd zd2 zdy zd2y tf rc ch bd od ro bch bbd dldf dtef dpuf dnuf ld te pu nuh tfy nuf kr kw kg rl0 rl1 rl2 zw zg zw2 zg2 zwy zgy zw2y zg2y X S hi hln hLI nx
      · refine g_tableIn X 403 dL_law_32 (off := 371) (by decide) (by decide) (by decide) (by decide) ?_
        exact arm_11 V Z x0 mm b i ln xs A e ew eg e2 ew2 eg2 B x n m q q2 z mn bmn day oday hto hwa dn_ dwa_ dm_ dto_ le c1 c2 ls bls po fa rcl rle fm dayy w g ow og rm mf lf dkf dfwf dfgf dwbf k fwf fgf wb rwb wy gy tr se fo ore bo mat bm so zd zd2 zdy zd2y tf rc ch bd od ro bch bbd dldf dtef dpuf dnuf ld te pu nuh tfy nuf kr kw kg rl0 rl1 rl2 zw zg zw2 zg2 zwy zgy zw2y zg2y X S hi hln hLI nx
      · refine g_tableIn X 416 dL_law_32 (off := 384) (by decide) (by decide) (by decide) (by decide) ?_
        exact arm_12 V Z x0 mm b i ln xs A e ew eg e2 ew2 eg2 B x n m q q2 z mn bmn day oday hto hwa dn_ dwa_ dm_ dto_ le c1 c2 ls bls po fa rcl rle fm dayy w g ow og rm mf lf dkf dfwf dfgf dwbf k fwf fgf wb rwb wy gy tr se fo ore bo mat bm so zd zd2 zdy zd2y tf rc ch bd od ro bch bbd dldf dtef dpuf dnuf ld te pu nuh tfy nuf kr kw kg rl0 rl1 rl2 zw zg zw2 zg2 zwy zgy zw2y zg2y X S hi hln hLI nx
      · refine g_tableIn X 449 dL_law_32 (off := 417) (by decide) (by decide) (by decide) (by decide) ?_
        exact arm_13 V Z x0 mm b i ln xs A e ew eg e2 ew2 eg2 B x n m q q2 z mn bmn day oday hto hwa dn_ dwa_ dm_ dto_ le c1 c2 ls bls po fa rcl rle fm dayy w g ow og rm mf lf dkf dfwf dfgf dwbf k fwf fgf wb rwb wy gy tr se fo ore bo mat bm so zd zd2 zdy zd2y tf rc ch bd od ro bch bbd dldf dtef dpuf dnuf ld te pu nuh tfy nuf kr kw kg rl0 rl1 rl2 zw zg zw2 zg2 zwy zgy zw2y zg2y X S hi hln hLI nx
      · refine g_tableIn X 482 dL_law_32 (off := 450) (by decide) (by decide) (by decide) (by decide) ?_
        exact arm_14 V Z x0 mm b i ln xs A e ew eg e2 ew2 eg2 B x n m q q2 z mn bmn day oday hto hwa dn_ dwa_ dm_ dto_ le c1 c2 ls bls po fa rcl rle fm dayy w g ow og rm mf lf dkf dfwf dfgf dwbf k fwf fgf wb rwb wy gy tr se fo ore bo mat bm so zd zd2 zdy zd2y tf rc ch bd od ro bch bbd dldf dtef dpuf dnuf ld te pu nuh tfy nuf kr kw kg rl0 rl1 rl2 zw zg zw2 zg2 zwy zgy zw2y zg2y X S hi hln hLI nx
      · refine g_tableIn X 505 dL_law_32 (off := 473) (by decide) (by decide) (by decide) (by decide) ?_
        exact arm_15 V Z x0 mm b i ln xs A e ew eg e2 ew2 eg2 B x n m q q2 z mn bmn day oday hto hwa dn_ dwa_ dm_ dto_ le c1 c2 ls bls po fa rcl rle fm dayy w g ow og rm mf lf dkf dfwf dfgf dwbf k fwf fgf wb rwb wy gy tr se fo ore bo mat bm so zd zd2 zdy zd2y tf rc ch bd od ro bch bbd dldf dtef dpuf dnuf ld te pu nuh tfy nuf kr kw kg rl0 rl1 rl2 zw zg zw2 zg2 zwy zgy zw2y zg2y X S hi hln hLI nx
      · refine g_tableIn X 518 dL_law_32 (off := 486) (by decide) (by decide) (by decide) (by decide) ?_
        exact arm_16 V Z x0 mm b i ln xs A e ew eg e2 ew2 eg2 B x n m q q2 z mn bmn day oday hto hwa dn_ dwa_ dm_ dto_ le c1 c2 ls bls po fa rcl rle fm dayy w g ow og rm mf lf dkf dfwf dfgf dwbf k fwf fgf wb rwb wy gy tr se fo ore bo mat bm so zd zd2 zdy zd2y tf rc ch bd od ro bch bbd dldf dtef dpuf dnuf ld te pu nuh tfy nuf kr kw kg rl0 rl1 rl2 zw zg zw2 zg2 zwy zgy zw2y zg2y X S hi hln hLI nx
      · refine g_tableIn X 541 dL_law_32 (off := 509) (by decide) (by decide) (by decide) (by decide) ?_
        exact arm_17 V Z x0 mm b i ln xs A e ew eg e2 ew2 eg2 B x n m q q2 z mn bmn day oday hto hwa dn_ dwa_ dm_ dto_ le c1 c2 ls bls po fa rcl rle fm dayy w g ow og rm mf lf dkf dfwf dfgf dwbf k fwf fgf wb rwb wy gy tr se fo ore bo mat bm so zd zd2 zdy zd2y tf rc ch bd od ro bch bbd dldf dtef dpuf dnuf ld te pu nuh tfy nuf kr kw kg rl0 rl1 rl2 zw zg zw2 zg2 zwy zgy zw2y zg2y X S hi hln hLI nx
      · refine g_tableIn X 584 dL_law_32 (off := 552) (by decide) (by decide) (by decide) (by decide) ?_
        exact arm_18 V Z x0 mm b i ln xs A e ew eg e2 ew2 eg2 B x n m q q2 z mn bmn day oday hto hwa dn_ dwa_ dm_ dto_ le c1 c2 ls bls po fa rcl rle fm dayy w g ow og rm mf lf dkf dfwf dfgf dwbf k fwf fgf wb rwb wy gy tr se fo ore bo mat bm so zd zd2 zdy zd2y tf rc ch bd od ro bch bbd dldf dtef dpuf dnuf ld te pu nuh tfy nuf kr kw kg rl0 rl1 rl2 zw zg zw2 zg2 zwy zgy zw2y zg2y X S hi hln hLI nx
      · refine g_tableIn X 617 dL_law_32 (off := 585) (by decide) (by decide) (by decide) (by decide) ?_
        exact arm_19 V Z x0 mm b i ln xs A e ew eg e2 ew2 eg2 B x n m q q2 z mn bmn day oday hto hwa dn_ dwa_ dm_ dto_ le c1 c2 ls bls po fa rcl rle fm dayy w g ow og rm mf lf dkf dfwf dfgf dwbf k fwf fgf wb rwb wy gy tr se fo ore bo mat bm so zd zd2 zdy zd2y tf rc ch bd od ro bch bbd dldf dtef dpuf dnuf ld te pu nuh tfy nuf kr kw kg rl0 rl1 rl2 zw zg zw2 zg2 zwy zgy zw2y zg2y X S hi hln hLI nx
      · refine g_tableIn X 630 dL_law_32 (off := 598) (by decide) (by decide) (by decide) (by decide) ?_
        exact arm_20 V Z x0 mm b i ln xs A e ew eg e2 ew2 eg2 B x n m q q2 z mn bmn day oday hto hwa dn_ dwa_ dm_ dto_ le c1 c2 ls bls po fa rcl rle fm dayy w g ow og rm mf lf dkf dfwf dfgf dwbf k fwf fgf wb rwb wy gy tr se fo ore bo mat bm so zd zd2 zdy zd2y tf rc ch bd od ro bch bbd dldf dtef dpuf dnuf ld te pu nuh tfy nuf kr kw kg rl0 rl1 rl2 zw zg zw2 zg2 zwy zgy zw2y zg2y X S hi hln hLI nx
      · refine g_tableIn X 653 dL_law_32 (off := 621) (by decide) (by decide) (by decide) (by decide) ?_
        exact arm_21 V Z x0 mm b i ln xs A e ew eg e2 ew2 eg2 B x n m q q2 z mn bmn day oday hto hwa dn_ dwa_ dm_ dto_ le c1 c2 ls bls po fa rcl rle fm dayy w g ow og rm mf lf dkf dfwf dfgf dwbf k fwf fgf wb rwb wy gy tr se fo ore bo mat bm so zd zd2 zdy zd2y tf rc ch bd od ro bch bbd dldf dtef dpuf dnuf ld te pu nuh tfy nuf kr kw kg rl0 rl1 rl2 zw zg zw2 zg2 zwy zgy zw2y zg2y X S hi hln hLI nx
      · refine g_tableIn X 676 dL_law_32 (off := 644) (by decide) (by decide) (by decide) (by decide) ?_
        exact arm_22 V Z x0 mm b i ln xs A e ew eg e2 ew2 eg2 B x n m q q2 z mn bmn day oday hto hwa dn_ dwa_ dm_ dto_ le c1 c2 ls bls po fa rcl rle fm dayy w g ow og rm mf lf dkf dfwf dfgf dwbf k fwf fgf wb rwb wy gy tr se fo ore bo mat bm so zd zd2 zdy zd2y tf rc ch bd od ro bch bbd dldf dtef dpuf dnuf ld te pu nuh tfy nuf kr kw kg rl0 rl1 rl2 zw zg zw2 zg2 zwy zgy zw2y zg2y X S hi hln hLI nx
      · refine g_tableIn X 699 dL_law_32 (off := 667) (by decide) (by decide) (by decide) (by decide) ?_
        exact arm_23 V Z x0 mm b i ln xs A e ew eg e2 ew2 eg2 B x n m q q2 z mn bmn day oday hto hwa dn_ dwa_ dm_ dto_ le c1 c2 ls bls po fa rcl rle fm dayy w g ow og rm mf lf dkf dfwf dfgf dwbf k fwf fgf wb rwb wy gy tr se fo ore bo mat bm so zd zd2 zdy zd2y tf rc ch bd od ro bch bbd dldf dtef dpuf dnuf ld te pu nuh tfy nuf kr kw kg rl0 rl1 rl2 zw zg zw2 zg2 zwy zgy zw2y zg2y X S hi hln hLI nx
      · refine g_tableIn X 752 dL_law_32 (off := 720) (by decide) (by decide) (by decide) (by decide) ?_
        exact arm_24 V Z x0 mm b i ln xs A e ew eg e2 ew2 eg2 B x n m q q2 z mn bmn day oday hto hwa dn_ dwa_ dm_ dto_ le c1 c2 ls bls po fa rcl rle fm dayy w g ow og rm mf lf dkf dfwf dfgf dwbf k fwf fgf wb rwb wy gy tr se fo ore bo mat bm so zd zd2 zdy zd2y tf rc ch bd od ro bch bbd dldf dtef dpuf dnuf ld te pu nuh tfy nuf kr kw kg rl0 rl1 rl2 zw zg zw2 zg2 zwy zgy zw2y zg2y X S hi hln hLI nx
      · refine g_tableIn X 795 dL_law_32 (off := 763) (by decide) (by decide) (by decide) (by decide) ?_
        exact arm_25 V Z x0 mm b i ln xs A e ew eg e2 ew2 eg2 B x n m q q2 z mn bmn day oday hto hwa dn_ dwa_ dm_ dto_ le c1 c2 ls bls po fa rcl rle fm dayy w g ow og rm mf lf dkf dfwf dfgf dwbf k fwf fgf wb rwb wy gy tr se fo ore bo mat bm so zd zd2 zdy zd2y tf rc ch bd od ro bch bbd dldf dtef dpuf dnuf ld te pu nuh tfy nuf kr kw kg rl0 rl1 rl2 zw zg zw2 zg2 zwy zgy zw2y zg2y X S hi hln hLI nx
      · refine g_tableIn X 808 dL_law_32 (off := 776) (by decide) (by decide) (by decide) (by decide) ?_
        exact arm_26 V Z x0 mm b i ln xs A e ew eg e2 ew2 eg2 B x n m q q2 z mn bmn day oday hto hwa dn_ dwa_ dm_ dto_ le c1 c2 ls bls po fa rcl rle fm dayy w g ow og rm mf lf dkf dfwf dfgf dwbf k fwf fgf wb rwb wy gy tr se fo ore bo mat bm so zd zd2 zdy zd2y tf rc ch bd od ro bch bbd dldf dtef dpuf dnuf ld te pu nuh tfy nuf kr kw kg rl0 rl1 rl2 zw zg zw2 zg2 zwy zgy zw2y zg2y X S hi hln hLI nx
      · refine g_tableIn X 821 dL_law_32 (off := 789) (by decide) (by decide) (by decide) (by decide) ?_
        exact arm_27 V Z x0 mm b i ln xs A e ew eg e2 ew2 eg2 B x n m q q2 z mn bmn day oday hto hwa dn_ dwa_ dm_ dto_ le c1 c2 ls bls po fa rcl rle fm dayy w g ow og rm mf lf dkf dfwf dfgf dwbf k fwf fgf wb rwb wy gy tr se fo ore bo mat bm so zd zd2 zdy zd2y tf rc ch bd od ro bch bbd dldf dtef dpuf dnuf ld te pu nuh tfy nuf kr kw kg rl0 rl1 rl2 zw zg zw2 zg2 zwy zgy zw2y zg2y X S hi hln hLI nx
      · refine g_tableOut X 844 dL_law_32 (Or.inr (by rw [nIa j (by omega)]; omega)) (by decide) ?_
        exact nx x n m q q2 z mn bmn day oday hto hwa dn_ dwa_ dm_ dto_ le c1 c2 ls bls po fa rcl rle fm dayy w g ow og rm mf lf dkf dfwf dfgf dwbf k fwf fgf wb rwb wy gy tr se fo ore bo mat bm so zd zd2 zdy zd2y tf rc ch bd od ro bch bbd dldf dtef dpuf dnuf ld te pu nuh tfy nuf kr kw kg rl0 rl1 rl2 zw zg zw2 zg2 zwy zgy zw2y zg2y hLI
