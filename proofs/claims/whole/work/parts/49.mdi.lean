set_option maxHeartbeats 4000000 in
set_option maxRecDepth 100000 in
theorem c_X11_layPairs (V : gV) (mm : Nat) (mtx : Nat) (mnu : Nat) (mrc : Nat) (mrw : Nat) (mrl : Nat) (mki : Nat) (mwa : Nat) (mle : Nat) (mno : Nat) (mtr : Nat) (mse : Nat) (mba : Nat) (mim : Nat) (msi : Nat) (mfo : Nat) (mor : Nat) (mbo : Nat) (mma : Nat) (mbm : Nat) (mso : Nat) (le_ : Int32) (po_ : Int32) (fa_ : Int32) (rcl_ : Int32) (rle_ : Int32) (n : Nat) (ls_ : Int32) (ba_ : Int32) (km_ : Int32) (si_ : Int32) (fm_ : Int32) (day : Int32) (w : Nat → Int32) (g : Nat → Int32) (ma : Nat → Int32) (bm : Nat → Int32) (hn : n ≤ 7) (h1n : 1 ≤ n) (hB : Bd n w) : Ki V yX11_layPairs cX11_layPairs 15 .int ({ frames := 1, cells := 0, slots := 0, locals := 21 }) [.ref mm] [(mm, .inr (11, [.int le_, .ref mtx, .int po_, .ref mnu, .int fa_, .int rcl_, .int rle_, .ref mrc, .ref mrw, .ref mrl, .int (nI n), .ref mki, .ref mwa, .int ls_, .ref mle, .ref mno, .ref mtr, .ref mse, .ref mba, .int ba_, .ref mim, .int km_, .int si_, .ref msi, .ref mfo, .int fm_, .ref mor, .ref mbo, .ref mma, .ref mbm, .ref mso])), (mno, .inl (V.2.2.1, 15, .inl (stF day w g))), (mma, .inl (V.2.2.1, 7, .inl ma)), (mbm, .inl (V.2.2.1, 7, .inl bm))] (fun (r : Int32) (u : (Nat → Int32) × (Nat → Int32)) => r = (bestP n w (waysP n)).1 ∧ (∀ j, j < n → u.2 j = (bestP n w (waysP n)).2 j)) (fun u => [(mm, .inr (11, [.int le_, .ref mtx, .int po_, .ref mnu, .int fa_, .int rcl_, .int rle_, .ref mrc, .ref mrw, .ref mrl, .int (nI n), .ref mki, .ref mwa, .int ls_, .ref mle, .ref mno, .ref mtr, .ref mse, .ref mba, .int ba_, .ref mim, .int km_, .int si_, .ref msi, .ref mfo, .int fm_, .ref mor, .ref mbo, .ref mma, .ref mbm, .ref mso])), (mno, .inl (V.2.2.1, 15, .inl (stF day w g))), (mma, .inl (V.2.2.1, 7, .inl u.1)), (mbm, .inl (V.2.2.1, 7, .inl u.2))]) := by
  refine Ki.of [some (.ref mm), none, none, none, none, none, none, none, none, none, none, none, none, none, none] (by decide) (Nat.le_of_ble_eq_true rfl) rfl rfl ?_
  intro Z X E
  have X : gX V Z RX11 cX11_layPairs 15 ({ frames := 1, cells := 0, slots := 0, locals := 21 }) := X
  refine g_bipush X (-4) dX11_layPairs_0 (by decide) ?_
  refine g_istore_n X (L' := [some (.ref mm), some (.int (-4)), none, none, none, none, none, none, none, none, none, none, none, none, none]) dX11_layPairs_2 (by decide) rfl rfl ?_
  refine g_iconst X (0) dX11_layPairs_3 (by decide) ?_
  refine g_istore_n X (L' := [some (.ref mm), some (.int (-4)), some (.int 0), none, none, none, none, none, none, none, none, none, none, none, none]) dX11_layPairs_4 (by decide) rfl rfl ?_
  have loop5 : ∀ (d5 code : Nat), code + d5 = 105 → ∀ (be : Int32) (ma1 : Nat → Int32) (bo1 : Nat → Int32) (hbe : be = (bM n w code).1) (hbo : be = -4 ∨ ∀ j, j < n → bo1 j = (bM n w code).2 j), G V Z 15 (0, 0) [(mm, .inr (11, [.int le_, .ref mtx, .int po_, .ref mnu, .int fa_, .int rcl_, .int rle_, .ref mrc, .ref mrw, .ref mrl, .int (nI n), .ref mki, .ref mwa, .int ls_, .ref mle, .ref mno, .ref mtr, .ref mse, .ref mba, .int ba_, .ref mim, .int km_, .int si_, .ref msi, .ref mfo, .int fm_, .ref mor, .ref mbo, .ref mma, .ref mbm, .ref mso])), (mno, .inl (V.2.2.1, 15, .inl (stF day w g))), (mma, .inl (V.2.2.1, 7, .inl ma1)), (mbm, .inl (V.2.2.1, 7, .inl bo1))] 5 [some (.ref mm), some (.int be), some (.int (nI code)), none, none, none, none, none, none, none, none, none, none, none, none] [] := by
    intro d5
    induction d5 with
    | zero =>
      intro code hcode be ma1 bo1 hbe hbo
      refine g_iload_n X dX11_layPairs_5 rfl ?_
      refine g_bipush X (105) dX11_layPairs_6 (by decide) ?_
      refine g_icmp_ge X 392 dX11_layPairs_8 (by decide) (fun c8_1 => ?_) (fun c8_1 => absurd (tge (a := code) (b := 105) (by omega) (by omega) (by omega)) c8_1)
      refine g_iload_n X dX11_layPairs_392 rfl ?_
      exact g_iret X E dX11_layPairs_393 ⟨ma1, bo1⟩ be ⟨(by have e : code = 105 := (by omega); subst e; rw [hbe, bM_all h1n hn]), (by have e : code = 105 := (by omega); subst e; rw [bM_all h1n hn] at hbe hbo; exact hbo.resolve_left (fun z => bestP_n4 h1n hn hB _ (ways_P n (by omega)).1 (Nat.le_refl _) (by rw [← hbe, z]; decide)))⟩ rfl
    | succ d5 ih5 =>
      intro code hcode be ma1 bo1 hbe hbo
      refine g_iload_n X dX11_layPairs_5 rfl ?_
      refine g_bipush X (105) dX11_layPairs_6 (by decide) ?_
      refine g_icmp_ge X 392 dX11_layPairs_8 (by decide) (fun c8_2 => absurd c8_2 (fge (a := code) (b := 105) (by omega) (by omega) (by omega))) (fun c8_2 => ?_)
      refine g_iload_n X dX11_layPairs_11 rfl ?_
      refine g_istore_n X (L' := [some (.ref mm), some (.int be), some (.int (nI code)), some (.int (nI code)), none, none, none, none, none, none, none, none, none, none, none]) dX11_layPairs_12 (by decide) rfl rfl ?_
      refine g_iconst X (0) dX11_layPairs_13 (by decide) ?_
      refine g_istore X (L' := [some (.ref mm), some (.int be), some (.int (nI code)), some (.int (nI code)), some (.int 0), none, none, none, none, none, none, none, none, none, none]) dX11_layPairs_14 (by decide) rfl rfl ?_
      refine g_iconst X (0) dX11_layPairs_16 (by decide) ?_
      refine g_istore X (L' := [some (.ref mm), some (.int be), some (.int (nI code)), some (.int (nI code)), some (.int 0), some (.int 0), none, none, none, none, none, none, none, none, none]) dX11_layPairs_17 (by decide) rfl rfl ?_
      refine g_iconst X (1) dX11_layPairs_19 (by decide) ?_
      refine g_istore X (L' := [some (.ref mm), some (.int be), some (.int (nI code)), some (.int (nI code)), some (.int 0), some (.int 0), some (.int 1), none, none, none, none, none, none, none, none]) dX11_layPairs_20 (by decide) rfl rfl ?_
      refine g_bipush X (15) dX11_layPairs_22 (by decide) ?_
      refine g_istore X (L' := [some (.ref mm), some (.int be), some (.int (nI code)), some (.int (nI code)), some (.int 0), some (.int 0), some (.int 1), some (.int 15), none, none, none, none, none, none, none]) dX11_layPairs_24 (by decide) rfl rfl ?_
      refine g_bipush X (7) dX11_layPairs_26 (by decide) ?_
      refine g_istore X (L' := [some (.ref mm), some (.int be), some (.int (nI code)), some (.int (nI code)), some (.int 0), some (.int 0), some (.int 1), some (.int 15), some (.int 7), none, none, none, none, none, none]) dX11_layPairs_28 (by decide) rfl rfl ?_
      refine g_iconst X (0) dX11_layPairs_30 (by decide) ?_
      refine g_istore X (L' := [some (.ref mm), some (.int be), some (.int (nI code)), some (.int (nI code)), some (.int 0), some (.int 0), some (.int 1), some (.int 15), some (.int 7), some (.int 0), none, none, none, none, none]) dX11_layPairs_31 (by decide) rfl rfl ?_
      have loop33_3 : ∀ (d33 j : Nat), j + d33 = 4 → ∀ (t : Nat) (su : Int32) (so : Int32) (m1 : Nat → Int32) (ht : t = (sM n code j).1) (hsu : su = sumL n w (sM n code j).2.2) (hso : so = if (sM n code j).2.1 = true then 1 else 0) (hm1 : m1 = matL n (sM n code j).2.2 ma1), G V Z 15 (0, 0) [(mm, .inr (11, [.int le_, .ref mtx, .int po_, .ref mnu, .int fa_, .int rcl_, .int rle_, .ref mrc, .ref mrw, .ref mrl, .int (nI n), .ref mki, .ref mwa, .int ls_, .ref mle, .ref mno, .ref mtr, .ref mse, .ref mba, .int ba_, .ref mim, .int km_, .int si_, .ref msi, .ref mfo, .int fm_, .ref mor, .ref mbo, .ref mma, .ref mbm, .ref mso])), (mno, .inl (V.2.2.1, 15, .inl (stF day w g))), (mma, .inl (V.2.2.1, 7, .inl m1)), (mbm, .inl (V.2.2.1, 7, .inl bo1))] 33 [some (.ref mm), some (.int be), some (.int (nI code)), some (.int (nI (lM code j))), some (.int (nI t)), some (.int su), some (.int so), some (.int (nI (uM j))), some (.int (chM j)), some (.int (nI j)), none, none, none, none, none] [] := by
        intro d33
        induction d33 with
        | zero =>
          intro j hj t su so m1 ht hsu hso hm1
          refine g_iload X dX11_layPairs_33 rfl ?_
          refine g_iconst X (4) dX11_layPairs_35 (by decide) ?_
          refine g_icmp_ge X 336 dX11_layPairs_36 (by decide) (fun c36_4 => ?_) (fun c36_4 => absurd (tge (a := j) (b := 4) (by omega) (by omega) (by omega)) c36_4)
          have hso4 : so = if okM n code = true then 1 else 0 := (by have e : j = 4 := (by omega); subst e; exact hso)
          have hsu4 : su = sumL n w (prM n code) := (by have e : j = 4 := (by omega); subst e; exact hsu)
          have hm4 : m1 = matL n (prM n code) ma1 := (by have e : j = 4 := (by omega); subst e; exact hm1)
          refine g_iload X dX11_layPairs_336 rfl ?_
          refine g_if_eq X 386 dX11_layPairs_338 (by decide) (fun c338_5 => ?_) (fun c338_5 => ?_)
          · have hbb := bM_0 (w := w) (by rw [so_b0 hso4 c338_5]; decide)
            refine g_iinc X (v := nI (code + 1)) (L' := [some (.ref mm), some (.int be), some (.int (nI (code + 1))), some (.int (nI (lM code j))), some (.int (nI t)), some (.int su), some (.int so), some (.int (nI (uM j))), some (.int (chM j)), some (.int (nI j)), none, none, none, none, none]) dX11_layPairs_386 rfl (nI_addk (by decide)) (by decide) rfl rfl ?_
            refine g_goto X 5 dX11_layPairs_389 (by decide) ?_
            refine g_sub (L' := [some (.ref mm), some (.int be), some (.int (nI (code + 1))), none, none, none, none, none, none, none, none, none, none, none, none]) ⟨rfl, ⟨rfl, ⟨rfl, trivial⟩⟩⟩ ?_
            exact ih5 (code + 1) (by omega) be m1 bo1 (by rw [hbb]; exact hbe) (by rw [hbb]; exact hbo)
          · refine g_iload_n X dX11_layPairs_341 rfl ?_
            refine g_if_lt X 351 dX11_layPairs_342 (by decide) (fun c342_6 => ?_) (fun c342_6 => ?_)
            · have c342_6d := Int32.not_le.mpr c342_6
              have hbb := bM_T (so_b1 hso4 c338_5) hbe (by rw [← hsu4]; exact br_b (by rw [hbe]; exact bM_pos h1n hn hB code (by omega)) (Or.inl c342_6))
              refine g_iload X dX11_layPairs_351 rfl ?_
              refine g_istore_n X (L' := [some (.ref mm), some (.int su), some (.int (nI code)), some (.int (nI (lM code j))), some (.int (nI t)), some (.int su), some (.int so), some (.int (nI (uM j))), some (.int (chM j)), some (.int (nI j)), none, none, none, none, none]) dX11_layPairs_353 (by decide) rfl rfl ?_
              refine g_iconst X (0) dX11_layPairs_354 (by decide) ?_
              refine g_istore X (L' := [some (.ref mm), some (.int su), some (.int (nI code)), some (.int (nI (lM code j))), some (.int (nI t)), some (.int su), some (.int so), some (.int (nI (uM j))), some (.int (chM j)), some (.int 0), none, none, none, none, none]) dX11_layPairs_355 (by decide) rfl rfl ?_
              have loop357_7 : ∀ (d357 c2 : Nat), c2 + d357 = n → ∀ (bo2 : Nat → Int32) (hb2 : ∀ q, q < c2 → bo2 q = m1 q), G V Z 15 (0, 0) [(mm, .inr (11, [.int le_, .ref mtx, .int po_, .ref mnu, .int fa_, .int rcl_, .int rle_, .ref mrc, .ref mrw, .ref mrl, .int (nI n), .ref mki, .ref mwa, .int ls_, .ref mle, .ref mno, .ref mtr, .ref mse, .ref mba, .int ba_, .ref mim, .int km_, .int si_, .ref msi, .ref mfo, .int fm_, .ref mor, .ref mbo, .ref mma, .ref mbm, .ref mso])), (mno, .inl (V.2.2.1, 15, .inl (stF day w g))), (mma, .inl (V.2.2.1, 7, .inl m1)), (mbm, .inl (V.2.2.1, 7, .inl bo2))] 357 [some (.ref mm), some (.int su), some (.int (nI code)), none, none, none, none, none, none, some (.int (nI c2)), none, none, none, none, none] [] := by
                intro d357
                induction d357 with
                | zero =>
                  intro c2 hc2 bo2 hb2
                  refine g_iload X dX11_layPairs_357 rfl ?_
                  refine g_aload_n X dX11_layPairs_359 rfl ?_
                  refine g_get X uwX11 0 rfl rfl 10 (by decide) kl_X11_91 rfl rfl gwX11 dX11_layPairs_360 ?_
                  refine g_icmp_ge X 386 dX11_layPairs_363 (by decide) (fun c363_8 => ?_) (fun c363_8 => absurd (tge (a := c2) (b := n) (by omega) (by omega) (by omega)) c363_8)
                  refine g_iinc X (v := nI (code + 1)) (L' := [some (.ref mm), some (.int su), some (.int (nI (code + 1))), none, none, none, none, none, none, some (.int (nI c2)), none, none, none, none, none]) dX11_layPairs_386 rfl (nI_addk (by decide)) (by decide) rfl rfl ?_
                  refine g_goto X 5 dX11_layPairs_389 (by decide) ?_
                  refine g_sub (L' := [some (.ref mm), some (.int su), some (.int (nI (code + 1))), none, none, none, none, none, none, none, none, none, none, none, none]) ⟨rfl, ⟨rfl, ⟨rfl, trivial⟩⟩⟩ ?_
                  exact ih5 (code + 1) (by omega) su m1 bo2 (by rw [hbb]; exact hsu4) (Or.inr (fun q hq => by rw [hbb, hb2 q (by omega), hm4]; exact mat_any h1n hn (by omega) (so_b1 hso4 c338_5) hq _ _))
                | succ d357 ih357 =>
                  intro c2 hc2 bo2 hb2
                  refine g_iload X dX11_layPairs_357 rfl ?_
                  refine g_aload_n X dX11_layPairs_359 rfl ?_
                  refine g_get X uwX11 0 rfl rfl 10 (by decide) kl_X11_91 rfl rfl gwX11 dX11_layPairs_360 ?_
                  refine g_icmp_ge X 386 dX11_layPairs_363 (by decide) (fun c363_9 => absurd c363_9 (fge (a := c2) (b := n) (by omega) (by omega) (by omega))) (fun c363_9 => ?_)
                  refine g_aload_n X dX11_layPairs_366 rfl ?_
                  refine g_get X uwX11 0 rfl rfl 29 (by decide) kl_X11_64 rfl rfl gwX11 dX11_layPairs_367 ?_
                  refine g_iload X dX11_layPairs_370 rfl ?_
                  refine g_aload_n X dX11_layPairs_372 rfl ?_
                  refine g_get X uwX11 0 rfl rfl 28 (by decide) kl_X11_61 rfl rfl gwX11 dX11_layPairs_373 ?_
                  refine g_iload X dX11_layPairs_376 rfl ?_
                  refine g_iald' X 2 rfl (i := c2) rfl (by omega) (by omega) dX11_layPairs_378 ?_
                  refine g_iast' X 3 rfl (i := c2) rfl (by omega) (by omega) (ws' := [(mm, .inr (11, [.int le_, .ref mtx, .int po_, .ref mnu, .int fa_, .int rcl_, .int rle_, .ref mrc, .ref mrw, .ref mrl, .int (nI n), .ref mki, .ref mwa, .int ls_, .ref mle, .ref mno, .ref mtr, .ref mse, .ref mba, .int ba_, .ref mim, .int km_, .int si_, .ref msi, .ref mfo, .int fm_, .ref mor, .ref mbo, .ref mma, .ref mbm, .ref mso])), (mno, .inl (V.2.2.1, 15, .inl (stF day w g))), (mma, .inl (V.2.2.1, 7, .inl m1)), (mbm, .inl (V.2.2.1, 7, .inl (upd bo2 c2 (m1 c2))))]) rfl dX11_layPairs_379 ?_
                  refine g_iinc X (v := nI (c2 + 1)) (L' := [some (.ref mm), some (.int su), some (.int (nI code)), none, none, none, none, none, none, some (.int (nI (c2 + 1))), none, none, none, none, none]) dX11_layPairs_380 rfl (nI_addk (by decide)) (by decide) rfl rfl ?_
                  refine g_goto X 357 dX11_layPairs_383 (by decide) ?_
                  exact ih357 (c2 + 1) (by omega) (upd bo2 c2 (m1 c2)) (fun q hq => by
          by_cases e : q = c2
          · rw [e, pk_us]
          · rw [pk_un e]; exact hb2 q (by omega))
              refine g_sub (L' := [some (.ref mm), some (.int su), some (.int (nI code)), none, none, none, none, none, none, some (.int 0), none, none, none, none, none]) ⟨rfl, ⟨rfl, ⟨rfl, ⟨rfl, trivial⟩⟩⟩⟩ ?_
              exact loop357_7 n 0 (by omega) bo1 (fun q h => absurd h (Nat.not_lt_zero _))
            · have c342_6d := Int32.not_lt.mp c342_6
              refine g_iload X dX11_layPairs_345 rfl ?_
              refine g_iload_n X dX11_layPairs_347 rfl ?_
              refine g_icmp_ge X 386 dX11_layPairs_348 (by decide) (fun c348_10 => ?_) (fun c348_10 => ?_)
              · have c348_10d := Int32.not_lt.mpr c348_10
                have hbb := bM_F (so_b1 hso4 c338_5) hbe (by rw [← hsu4]; exact br_n c342_6 (Int32.not_lt.mpr c348_10))
                refine g_iinc X (v := nI (code + 1)) (L' := [some (.ref mm), some (.int be), some (.int (nI (code + 1))), some (.int (nI (lM code j))), some (.int (nI t)), some (.int su), some (.int so), some (.int (nI (uM j))), some (.int (chM j)), some (.int (nI j)), none, none, none, none, none]) dX11_layPairs_386 rfl (nI_addk (by decide)) (by decide) rfl rfl ?_
                refine g_goto X 5 dX11_layPairs_389 (by decide) ?_
                refine g_sub (L' := [some (.ref mm), some (.int be), some (.int (nI (code + 1))), none, none, none, none, none, none, none, none, none, none, none, none]) ⟨rfl, ⟨rfl, ⟨rfl, trivial⟩⟩⟩ ?_
                exact ih5 (code + 1) (by omega) be m1 bo1 (by rw [hbb]; exact hbe) (by rw [hbb]; exact hbo)
              · have c348_10d := Int32.not_le.mp c348_10
                have hbb := bM_T (so_b1 hso4 c338_5) hbe (by rw [← hsu4]; exact br_b (by rw [hbe]; exact bM_pos h1n hn hB code (by omega)) (Or.inr c348_10d))
                refine g_iload X dX11_layPairs_351 rfl ?_
                refine g_istore_n X (L' := [some (.ref mm), some (.int su), some (.int (nI code)), some (.int (nI (lM code j))), some (.int (nI t)), some (.int su), some (.int so), some (.int (nI (uM j))), some (.int (chM j)), some (.int (nI j)), none, none, none, none, none]) dX11_layPairs_353 (by decide) rfl rfl ?_
                refine g_iconst X (0) dX11_layPairs_354 (by decide) ?_
                refine g_istore X (L' := [some (.ref mm), some (.int su), some (.int (nI code)), some (.int (nI (lM code j))), some (.int (nI t)), some (.int su), some (.int so), some (.int (nI (uM j))), some (.int (chM j)), some (.int 0), none, none, none, none, none]) dX11_layPairs_355 (by decide) rfl rfl ?_
                have loop357_11 : ∀ (d357 c2 : Nat), c2 + d357 = n → ∀ (bo2 : Nat → Int32) (hb2 : ∀ q, q < c2 → bo2 q = m1 q), G V Z 15 (0, 0) [(mm, .inr (11, [.int le_, .ref mtx, .int po_, .ref mnu, .int fa_, .int rcl_, .int rle_, .ref mrc, .ref mrw, .ref mrl, .int (nI n), .ref mki, .ref mwa, .int ls_, .ref mle, .ref mno, .ref mtr, .ref mse, .ref mba, .int ba_, .ref mim, .int km_, .int si_, .ref msi, .ref mfo, .int fm_, .ref mor, .ref mbo, .ref mma, .ref mbm, .ref mso])), (mno, .inl (V.2.2.1, 15, .inl (stF day w g))), (mma, .inl (V.2.2.1, 7, .inl m1)), (mbm, .inl (V.2.2.1, 7, .inl bo2))] 357 [some (.ref mm), some (.int su), some (.int (nI code)), none, none, none, none, none, none, some (.int (nI c2)), none, none, none, none, none] [] := by
                  intro d357
                  induction d357 with
                  | zero =>
                    intro c2 hc2 bo2 hb2
                    refine g_iload X dX11_layPairs_357 rfl ?_
                    refine g_aload_n X dX11_layPairs_359 rfl ?_
                    refine g_get X uwX11 0 rfl rfl 10 (by decide) kl_X11_91 rfl rfl gwX11 dX11_layPairs_360 ?_
                    refine g_icmp_ge X 386 dX11_layPairs_363 (by decide) (fun c363_12 => ?_) (fun c363_12 => absurd (tge (a := c2) (b := n) (by omega) (by omega) (by omega)) c363_12)
                    refine g_iinc X (v := nI (code + 1)) (L' := [some (.ref mm), some (.int su), some (.int (nI (code + 1))), none, none, none, none, none, none, some (.int (nI c2)), none, none, none, none, none]) dX11_layPairs_386 rfl (nI_addk (by decide)) (by decide) rfl rfl ?_
                    refine g_goto X 5 dX11_layPairs_389 (by decide) ?_
                    refine g_sub (L' := [some (.ref mm), some (.int su), some (.int (nI (code + 1))), none, none, none, none, none, none, none, none, none, none, none, none]) ⟨rfl, ⟨rfl, ⟨rfl, trivial⟩⟩⟩ ?_
                    exact ih5 (code + 1) (by omega) su m1 bo2 (by rw [hbb]; exact hsu4) (Or.inr (fun q hq => by rw [hbb, hb2 q (by omega), hm4]; exact mat_any h1n hn (by omega) (so_b1 hso4 c338_5) hq _ _))
                  | succ d357 ih357 =>
                    intro c2 hc2 bo2 hb2
                    refine g_iload X dX11_layPairs_357 rfl ?_
                    refine g_aload_n X dX11_layPairs_359 rfl ?_
                    refine g_get X uwX11 0 rfl rfl 10 (by decide) kl_X11_91 rfl rfl gwX11 dX11_layPairs_360 ?_
                    refine g_icmp_ge X 386 dX11_layPairs_363 (by decide) (fun c363_13 => absurd c363_13 (fge (a := c2) (b := n) (by omega) (by omega) (by omega))) (fun c363_13 => ?_)
                    refine g_aload_n X dX11_layPairs_366 rfl ?_
                    refine g_get X uwX11 0 rfl rfl 29 (by decide) kl_X11_64 rfl rfl gwX11 dX11_layPairs_367 ?_
                    refine g_iload X dX11_layPairs_370 rfl ?_
                    refine g_aload_n X dX11_layPairs_372 rfl ?_
                    refine g_get X uwX11 0 rfl rfl 28 (by decide) kl_X11_61 rfl rfl gwX11 dX11_layPairs_373 ?_
                    refine g_iload X dX11_layPairs_376 rfl ?_
                    refine g_iald' X 2 rfl (i := c2) rfl (by omega) (by omega) dX11_layPairs_378 ?_
                    refine g_iast' X 3 rfl (i := c2) rfl (by omega) (by omega) (ws' := [(mm, .inr (11, [.int le_, .ref mtx, .int po_, .ref mnu, .int fa_, .int rcl_, .int rle_, .ref mrc, .ref mrw, .ref mrl, .int (nI n), .ref mki, .ref mwa, .int ls_, .ref mle, .ref mno, .ref mtr, .ref mse, .ref mba, .int ba_, .ref mim, .int km_, .int si_, .ref msi, .ref mfo, .int fm_, .ref mor, .ref mbo, .ref mma, .ref mbm, .ref mso])), (mno, .inl (V.2.2.1, 15, .inl (stF day w g))), (mma, .inl (V.2.2.1, 7, .inl m1)), (mbm, .inl (V.2.2.1, 7, .inl (upd bo2 c2 (m1 c2))))]) rfl dX11_layPairs_379 ?_
                    refine g_iinc X (v := nI (c2 + 1)) (L' := [some (.ref mm), some (.int su), some (.int (nI code)), none, none, none, none, none, none, some (.int (nI (c2 + 1))), none, none, none, none, none]) dX11_layPairs_380 rfl (nI_addk (by decide)) (by decide) rfl rfl ?_
                    refine g_goto X 357 dX11_layPairs_383 (by decide) ?_
                    exact ih357 (c2 + 1) (by omega) (upd bo2 c2 (m1 c2)) (fun q hq => by
          by_cases e : q = c2
          · rw [e, pk_us]
          · rw [pk_un e]; exact hb2 q (by omega))
                refine g_sub (L' := [some (.ref mm), some (.int su), some (.int (nI code)), none, none, none, none, none, none, some (.int 0), none, none, none, none, none]) ⟨rfl, ⟨rfl, ⟨rfl, ⟨rfl, trivial⟩⟩⟩⟩ ?_
                exact loop357_11 n 0 (by omega) bo1 (fun q h => absurd h (Nat.not_lt_zero _))
        | succ d33 ih33 =>
          intro j hj t su so m1 ht hsu hso hm1
          refine g_iload X dX11_layPairs_33 rfl ?_
          refine g_iconst X (4) dX11_layPairs_35 (by decide) ?_
          refine g_icmp_ge X 336 dX11_layPairs_36 (by decide) (fun c36_14 => absurd c36_14 (fge (a := j) (b := 4) (by omega) (by omega) (by omega))) (fun c36_14 => ?_)
          have ht8 : t < 256 := (by rw [ht]; exact t_M n (by omega) h1n code (by omega) j (by omega))
          refine g_iconst X (0) dX11_layPairs_39 (by decide) ?_
          refine g_istore X (L' := [some (.ref mm), some (.int be), some (.int (nI code)), some (.int (nI (lM code j))), some (.int (nI t)), some (.int su), some (.int so), some (.int (nI (uM j))), some (.int (chM j)), some (.int (nI j)), some (.int 0), none, none, none, none]) dX11_layPairs_40 (by decide) rfl rfl ?_
          have loop42_15 : ∀ (d42 i : Nat), i + d42 = n → ∀  (hlo : fst1 (loP t) i = none), G V Z 15 (0, 0) [(mm, .inr (11, [.int le_, .ref mtx, .int po_, .ref mnu, .int fa_, .int rcl_, .int rle_, .ref mrc, .ref mrw, .ref mrl, .int (nI n), .ref mki, .ref mwa, .int ls_, .ref mle, .ref mno, .ref mtr, .ref mse, .ref mba, .int ba_, .ref mim, .int km_, .int si_, .ref msi, .ref mfo, .int fm_, .ref mor, .ref mbo, .ref mma, .ref mbm, .ref mso])), (mno, .inl (V.2.2.1, 15, .inl (stF day w g))), (mma, .inl (V.2.2.1, 7, .inl m1)), (mbm, .inl (V.2.2.1, 7, .inl bo1))] 42 [some (.ref mm), some (.int be), some (.int (nI code)), some (.int (nI (lM code j))), some (.int (nI t)), some (.int su), some (.int so), some (.int (nI (uM j))), some (.int (chM j)), some (.int (nI j)), some (.int (nI i)), none, none, none, none] [] := by
            intro d42
            induction d42 with
            | zero =>
              intro i hi hlo
              refine g_iload X dX11_layPairs_42 rfl ?_
              refine g_aload_n X dX11_layPairs_44 rfl ?_
              refine g_get X uwX11 0 rfl rfl 10 (by decide) kl_X11_91 rfl rfl gwX11 dX11_layPairs_45 ?_
              refine g_icmp_ge X 67 dX11_layPairs_48 (by decide) (fun c48_16 => ?_) (fun c48_16 => absurd (tge (a := i) (b := n) (by omega) (by omega) (by omega)) c48_16)
              have hil : i = loM n t := lo_n hlo (by omega)
              have hlu := lu_M code (by omega) j (by omega)
              refine g_iload_n X dX11_layPairs_67 rfl ?_
              refine g_iload X dX11_layPairs_68 rfl ?_
              refine g_idiv X dX11_layPairs_70 (fun z => absurd ((nI_z (by omega)).mp z) (by omega)) ?_
              refine g_toe (x' := nI ((lM code j) / (uM j))) (nI_div' rfl rfl (by omega) (by omega) (by omega)) ?_
              refine g_toe (x' := nI (qM code j)) (by rw [hlu.2.2.2.1]) ?_
              refine g_istore X (L' := [some (.ref mm), some (.int be), some (.int (nI code)), some (.int (nI (lM code j))), some (.int (nI t)), some (.int su), some (.int so), some (.int (nI (uM j))), some (.int (chM j)), some (.int (nI j)), some (.int (nI i)), some (.int (nI (qM code j))), none, none, none]) dX11_layPairs_71 (by decide) rfl rfl ?_
              refine g_iload_n X dX11_layPairs_73 rfl ?_
              refine g_iload X dX11_layPairs_74 rfl ?_
              refine g_rem X dX11_layPairs_76 (fun z => absurd ((nI_z (by omega)).mp z) (by omega)) ?_
              refine g_toe (x' := nI ((lM code j) % (uM j))) (nI_mod' rfl rfl (by omega) (by omega) (by omega)) ?_
              refine g_toe (x' := nI (lM code (j + 1))) (by rw [hlu.2.2.2.2.1]) ?_
              refine g_istore_n X (L' := [some (.ref mm), some (.int be), some (.int (nI code)), some (.int (nI (lM code (j + 1)))), some (.int (nI t)), some (.int su), some (.int so), some (.int (nI (uM j))), some (.int (chM j)), some (.int (nI j)), some (.int (nI i)), some (.int (nI (qM code j))), none, none, none]) dX11_layPairs_77 (by decide) rfl rfl ?_
              refine g_iinc X (v := chM (j + 1)) (L' := [some (.ref mm), some (.int be), some (.int (nI code)), some (.int (nI (lM code (j + 1)))), some (.int (nI t)), some (.int su), some (.int so), some (.int (nI (uM j))), some (.int (chM (j + 1))), some (.int (nI j)), some (.int (nI i)), some (.int (nI (qM code j))), none, none, none]) dX11_layPairs_78 rfl (ch_dec j (by omega)) (by decide) rfl rfl ?_
              refine g_iload X dX11_layPairs_81 rfl ?_
              refine g_iload X dX11_layPairs_83 rfl ?_
              refine g_iconst X (1) dX11_layPairs_85 (by decide) ?_
              refine g_icmp_le X 94 dX11_layPairs_86 (by decide) (fun c86_17 => ?_) (fun c86_17 => ?_)
              · have c86_17d := Int32.not_lt.mpr c86_17
                refine g_iconst X (1) dX11_layPairs_94 (by decide) ?_
                refine g_idiv X dX11_layPairs_95 (by first | decide | exact (un_F j (by omega) (by assumption)).2) ?_
                refine g_toe (x' := nI ((uM j) / 1)) (nI_div' rfl rfl (by omega) (by omega) (by omega)) ?_
                refine g_toe (x' := nI (uM (j + 1))) (by rw [un_T j (by omega) c86_17]) ?_
                refine g_istore X (L' := [some (.ref mm), some (.int be), some (.int (nI code)), some (.int (nI (lM code (j + 1)))), some (.int (nI t)), some (.int su), some (.int so), some (.int (nI (uM (j + 1)))), some (.int (chM (j + 1))), some (.int (nI j)), some (.int (nI i)), some (.int (nI (qM code j))), none, none, none]) dX11_layPairs_96 (by decide) rfl rfl ?_
                refine g_iload X dX11_layPairs_98 rfl ?_
                refine g_aload_n X dX11_layPairs_100 rfl ?_
                refine g_get X uwX11 0 rfl rfl 10 (by decide) kl_X11_91 rfl rfl gwX11 dX11_layPairs_101 ?_
                refine g_icmp_ne X 127 dX11_layPairs_104 (by decide) (fun c104_18 => absurd (teq (a := i) (b := n) (by omega) (by omega) (by omega)) c104_18) (fun c104_18 => ?_)
                refine g_iload X dX11_layPairs_107 rfl ?_
                refine g_if_eq X 121 dX11_layPairs_109 (by decide) (fun c109_19 => ?_) (fun c109_19 => ?_)
                · refine g_iconst X (0) dX11_layPairs_121 (by decide) ?_
                  refine g_istore X (L' := [some (.ref mm), some (.int be), some (.int (nI code)), some (.int (nI (lM code (j + 1)))), some (.int (nI t)), some (.int su), some (.int 0), some (.int (nI (uM (j + 1)))), some (.int (chM (j + 1))), some (.int (nI j)), some (.int (nI i)), some (.int (nI (qM code j))), none, none, none]) dX11_layPairs_122 (by decide) rfl rfl ?_
                  refine g_goto X 330 dX11_layPairs_124 (by decide) ?_
                  have hst := st_1 ht hil (by omega)
                  refine g_iinc X (v := nI (j + 1)) (L' := [some (.ref mm), some (.int be), some (.int (nI code)), some (.int (nI (lM code (j + 1)))), some (.int (nI t)), some (.int su), some (.int 0), some (.int (nI (uM (j + 1)))), some (.int (chM (j + 1))), some (.int (nI (j + 1))), some (.int (nI i)), some (.int (nI (qM code j))), none, none, none]) dX11_layPairs_330 rfl (nI_addk (by decide)) (by decide) rfl rfl ?_
                  refine g_goto X 33 dX11_layPairs_333 (by decide) ?_
                  refine g_sub (L' := [some (.ref mm), some (.int be), some (.int (nI code)), some (.int (nI (lM code (j + 1)))), some (.int (nI t)), some (.int su), some (.int 0), some (.int (nI (uM (j + 1)))), some (.int (chM (j + 1))), some (.int (nI (j + 1))), none, none, none, none, none]) ⟨rfl, ⟨rfl, ⟨rfl, ⟨rfl, ⟨rfl, ⟨rfl, ⟨rfl, ⟨rfl, ⟨rfl, ⟨rfl, trivial⟩⟩⟩⟩⟩⟩⟩⟩⟩⟩ ?_
                  exact ih33 (j + 1) (by omega) t su 0 m1 (by rw [hst]) (by rw [hst]; exact hsu) (by rw [hst]; simp [so_b0 hso c109_19]) (by rw [hst]; exact hm1)
                · refine g_iload X dX11_layPairs_112 rfl ?_
                  refine g_if_ne X 121 dX11_layPairs_114 (by decide) (fun c114_20 => ?_) (fun c114_20 => ?_)
                  · have c114_20n := ine' (a := qM code j) (b := 0) c114_20 (by omega) (by omega)
                    refine g_iconst X (0) dX11_layPairs_121 (by decide) ?_
                    refine g_istore X (L' := [some (.ref mm), some (.int be), some (.int (nI code)), some (.int (nI (lM code (j + 1)))), some (.int (nI t)), some (.int su), some (.int 0), some (.int (nI (uM (j + 1)))), some (.int (chM (j + 1))), some (.int (nI j)), some (.int (nI i)), some (.int (nI (qM code j))), none, none, none]) dX11_layPairs_122 (by decide) rfl rfl ?_
                    refine g_goto X 330 dX11_layPairs_124 (by decide) ?_
                    have hst := st_1 ht hil (by omega)
                    refine g_iinc X (v := nI (j + 1)) (L' := [some (.ref mm), some (.int be), some (.int (nI code)), some (.int (nI (lM code (j + 1)))), some (.int (nI t)), some (.int su), some (.int 0), some (.int (nI (uM (j + 1)))), some (.int (chM (j + 1))), some (.int (nI (j + 1))), some (.int (nI i)), some (.int (nI (qM code j))), none, none, none]) dX11_layPairs_330 rfl (nI_addk (by decide)) (by decide) rfl rfl ?_
                    refine g_goto X 33 dX11_layPairs_333 (by decide) ?_
                    refine g_sub (L' := [some (.ref mm), some (.int be), some (.int (nI code)), some (.int (nI (lM code (j + 1)))), some (.int (nI t)), some (.int su), some (.int 0), some (.int (nI (uM (j + 1)))), some (.int (chM (j + 1))), some (.int (nI (j + 1))), none, none, none, none, none]) ⟨rfl, ⟨rfl, ⟨rfl, ⟨rfl, ⟨rfl, ⟨rfl, ⟨rfl, ⟨rfl, ⟨rfl, ⟨rfl, trivial⟩⟩⟩⟩⟩⟩⟩⟩⟩⟩ ?_
                    exact ih33 (j + 1) (by omega) t su 0 m1 (by rw [hst]) (by rw [hst]; exact hsu) (by rw [hst]; simp [so_b1 hso c109_19, c114_20n]) (by rw [hst]; exact hm1)
                  · have c114_20n := ieq' (a := qM code j) (b := 0) c114_20 (by omega) (by omega)
                    refine g_iconst X (1) dX11_layPairs_117 (by decide) ?_
                    refine g_goto X 122 dX11_layPairs_118 (by decide) ?_
                    refine g_istore X (L' := [some (.ref mm), some (.int be), some (.int (nI code)), some (.int (nI (lM code (j + 1)))), some (.int (nI t)), some (.int su), some (.int 1), some (.int (nI (uM (j + 1)))), some (.int (chM (j + 1))), some (.int (nI j)), some (.int (nI i)), some (.int (nI (qM code j))), none, none, none]) dX11_layPairs_122 (by decide) rfl rfl ?_
                    refine g_goto X 330 dX11_layPairs_124 (by decide) ?_
                    have hst := st_1 ht hil (by omega)
                    refine g_iinc X (v := nI (j + 1)) (L' := [some (.ref mm), some (.int be), some (.int (nI code)), some (.int (nI (lM code (j + 1)))), some (.int (nI t)), some (.int su), some (.int 1), some (.int (nI (uM (j + 1)))), some (.int (chM (j + 1))), some (.int (nI (j + 1))), some (.int (nI i)), some (.int (nI (qM code j))), none, none, none]) dX11_layPairs_330 rfl (nI_addk (by decide)) (by decide) rfl rfl ?_
                    refine g_goto X 33 dX11_layPairs_333 (by decide) ?_
                    refine g_sub (L' := [some (.ref mm), some (.int be), some (.int (nI code)), some (.int (nI (lM code (j + 1)))), some (.int (nI t)), some (.int su), some (.int 1), some (.int (nI (uM (j + 1)))), some (.int (chM (j + 1))), some (.int (nI (j + 1))), none, none, none, none, none]) ⟨rfl, ⟨rfl, ⟨rfl, ⟨rfl, ⟨rfl, ⟨rfl, ⟨rfl, ⟨rfl, ⟨rfl, ⟨rfl, trivial⟩⟩⟩⟩⟩⟩⟩⟩⟩⟩ ?_
                    exact ih33 (j + 1) (by omega) t su 1 m1 (by rw [hst]) (by rw [hst]; exact hsu) (by rw [hst]; simp [so_b1 hso c109_19, c114_20n]) (by rw [hst]; exact hm1)
              · have c86_17d := Int32.not_le.mp c86_17
                refine g_iload X dX11_layPairs_89 rfl ?_
                refine g_goto X 95 dX11_layPairs_91 (by decide) ?_
                refine g_idiv X dX11_layPairs_95 (by first | decide | exact (un_F j (by omega) (by assumption)).2) ?_
                refine g_toe (x' := nI (uM (j + 1))) (un_F j (by omega) c86_17).1 ?_
                refine g_istore X (L' := [some (.ref mm), some (.int be), some (.int (nI code)), some (.int (nI (lM code (j + 1)))), some (.int (nI t)), some (.int su), some (.int so), some (.int (nI (uM (j + 1)))), some (.int (chM (j + 1))), some (.int (nI j)), some (.int (nI i)), some (.int (nI (qM code j))), none, none, none]) dX11_layPairs_96 (by decide) rfl rfl ?_
                refine g_iload X dX11_layPairs_98 rfl ?_
                refine g_aload_n X dX11_layPairs_100 rfl ?_
                refine g_get X uwX11 0 rfl rfl 10 (by decide) kl_X11_91 rfl rfl gwX11 dX11_layPairs_101 ?_
                refine g_icmp_ne X 127 dX11_layPairs_104 (by decide) (fun c104_21 => absurd (teq (a := i) (b := n) (by omega) (by omega) (by omega)) c104_21) (fun c104_21 => ?_)
                refine g_iload X dX11_layPairs_107 rfl ?_
                refine g_if_eq X 121 dX11_layPairs_109 (by decide) (fun c109_22 => ?_) (fun c109_22 => ?_)
                · refine g_iconst X (0) dX11_layPairs_121 (by decide) ?_
                  refine g_istore X (L' := [some (.ref mm), some (.int be), some (.int (nI code)), some (.int (nI (lM code (j + 1)))), some (.int (nI t)), some (.int su), some (.int 0), some (.int (nI (uM (j + 1)))), some (.int (chM (j + 1))), some (.int (nI j)), some (.int (nI i)), some (.int (nI (qM code j))), none, none, none]) dX11_layPairs_122 (by decide) rfl rfl ?_
                  refine g_goto X 330 dX11_layPairs_124 (by decide) ?_
                  have hst := st_1 ht hil (by omega)
                  refine g_iinc X (v := nI (j + 1)) (L' := [some (.ref mm), some (.int be), some (.int (nI code)), some (.int (nI (lM code (j + 1)))), some (.int (nI t)), some (.int su), some (.int 0), some (.int (nI (uM (j + 1)))), some (.int (chM (j + 1))), some (.int (nI (j + 1))), some (.int (nI i)), some (.int (nI (qM code j))), none, none, none]) dX11_layPairs_330 rfl (nI_addk (by decide)) (by decide) rfl rfl ?_
                  refine g_goto X 33 dX11_layPairs_333 (by decide) ?_
                  refine g_sub (L' := [some (.ref mm), some (.int be), some (.int (nI code)), some (.int (nI (lM code (j + 1)))), some (.int (nI t)), some (.int su), some (.int 0), some (.int (nI (uM (j + 1)))), some (.int (chM (j + 1))), some (.int (nI (j + 1))), none, none, none, none, none]) ⟨rfl, ⟨rfl, ⟨rfl, ⟨rfl, ⟨rfl, ⟨rfl, ⟨rfl, ⟨rfl, ⟨rfl, ⟨rfl, trivial⟩⟩⟩⟩⟩⟩⟩⟩⟩⟩ ?_
                  exact ih33 (j + 1) (by omega) t su 0 m1 (by rw [hst]) (by rw [hst]; exact hsu) (by rw [hst]; simp [so_b0 hso c109_22]) (by rw [hst]; exact hm1)
                · refine g_iload X dX11_layPairs_112 rfl ?_
                  refine g_if_ne X 121 dX11_layPairs_114 (by decide) (fun c114_23 => ?_) (fun c114_23 => ?_)
                  · have c114_23n := ine' (a := qM code j) (b := 0) c114_23 (by omega) (by omega)
                    refine g_iconst X (0) dX11_layPairs_121 (by decide) ?_
                    refine g_istore X (L' := [some (.ref mm), some (.int be), some (.int (nI code)), some (.int (nI (lM code (j + 1)))), some (.int (nI t)), some (.int su), some (.int 0), some (.int (nI (uM (j + 1)))), some (.int (chM (j + 1))), some (.int (nI j)), some (.int (nI i)), some (.int (nI (qM code j))), none, none, none]) dX11_layPairs_122 (by decide) rfl rfl ?_
                    refine g_goto X 330 dX11_layPairs_124 (by decide) ?_
                    have hst := st_1 ht hil (by omega)
                    refine g_iinc X (v := nI (j + 1)) (L' := [some (.ref mm), some (.int be), some (.int (nI code)), some (.int (nI (lM code (j + 1)))), some (.int (nI t)), some (.int su), some (.int 0), some (.int (nI (uM (j + 1)))), some (.int (chM (j + 1))), some (.int (nI (j + 1))), some (.int (nI i)), some (.int (nI (qM code j))), none, none, none]) dX11_layPairs_330 rfl (nI_addk (by decide)) (by decide) rfl rfl ?_
                    refine g_goto X 33 dX11_layPairs_333 (by decide) ?_
                    refine g_sub (L' := [some (.ref mm), some (.int be), some (.int (nI code)), some (.int (nI (lM code (j + 1)))), some (.int (nI t)), some (.int su), some (.int 0), some (.int (nI (uM (j + 1)))), some (.int (chM (j + 1))), some (.int (nI (j + 1))), none, none, none, none, none]) ⟨rfl, ⟨rfl, ⟨rfl, ⟨rfl, ⟨rfl, ⟨rfl, ⟨rfl, ⟨rfl, ⟨rfl, ⟨rfl, trivial⟩⟩⟩⟩⟩⟩⟩⟩⟩⟩ ?_
                    exact ih33 (j + 1) (by omega) t su 0 m1 (by rw [hst]) (by rw [hst]; exact hsu) (by rw [hst]; simp [so_b1 hso c109_22, c114_23n]) (by rw [hst]; exact hm1)
                  · have c114_23n := ieq' (a := qM code j) (b := 0) c114_23 (by omega) (by omega)
                    refine g_iconst X (1) dX11_layPairs_117 (by decide) ?_
                    refine g_goto X 122 dX11_layPairs_118 (by decide) ?_
                    refine g_istore X (L' := [some (.ref mm), some (.int be), some (.int (nI code)), some (.int (nI (lM code (j + 1)))), some (.int (nI t)), some (.int su), some (.int 1), some (.int (nI (uM (j + 1)))), some (.int (chM (j + 1))), some (.int (nI j)), some (.int (nI i)), some (.int (nI (qM code j))), none, none, none]) dX11_layPairs_122 (by decide) rfl rfl ?_
                    refine g_goto X 330 dX11_layPairs_124 (by decide) ?_
                    have hst := st_1 ht hil (by omega)
                    refine g_iinc X (v := nI (j + 1)) (L' := [some (.ref mm), some (.int be), some (.int (nI code)), some (.int (nI (lM code (j + 1)))), some (.int (nI t)), some (.int su), some (.int 1), some (.int (nI (uM (j + 1)))), some (.int (chM (j + 1))), some (.int (nI (j + 1))), some (.int (nI i)), some (.int (nI (qM code j))), none, none, none]) dX11_layPairs_330 rfl (nI_addk (by decide)) (by decide) rfl rfl ?_
                    refine g_goto X 33 dX11_layPairs_333 (by decide) ?_
                    refine g_sub (L' := [some (.ref mm), some (.int be), some (.int (nI code)), some (.int (nI (lM code (j + 1)))), some (.int (nI t)), some (.int su), some (.int 1), some (.int (nI (uM (j + 1)))), some (.int (chM (j + 1))), some (.int (nI (j + 1))), none, none, none, none, none]) ⟨rfl, ⟨rfl, ⟨rfl, ⟨rfl, ⟨rfl, ⟨rfl, ⟨rfl, ⟨rfl, ⟨rfl, ⟨rfl, trivial⟩⟩⟩⟩⟩⟩⟩⟩⟩⟩ ?_
                    exact ih33 (j + 1) (by omega) t su 1 m1 (by rw [hst]) (by rw [hst]; exact hsu) (by rw [hst]; simp [so_b1 hso c109_22, c114_23n]) (by rw [hst]; exact hm1)
            | succ d42 ih42 =>
              intro i hi hlo
              refine g_iload X dX11_layPairs_42 rfl ?_
              refine g_aload_n X dX11_layPairs_44 rfl ?_
              refine g_get X uwX11 0 rfl rfl 10 (by decide) kl_X11_91 rfl rfl gwX11 dX11_layPairs_45 ?_
              refine g_icmp_ge X 67 dX11_layPairs_48 (by decide) (fun c48_24 => absurd c48_24 (fge (a := i) (b := n) (by omega) (by omega) (by omega))) (fun c48_24 => ?_)
              refine g_iload X dX11_layPairs_51 rfl ?_
              refine g_iload X dX11_layPairs_53 rfl ?_
              refine g_callSi X (c_X11_has V (nI t) i) mo_X11_has kl_X11_158 [] [0, 0, 0, 0] rfl (by decide +kernel) rfl rfl (fun _ => Nat.le_of_ble_eq_true rfl) (As := [.int (nI t), .int (nI i)]) (st := []) (cs' := (0, 0)) rfl rfl rfl dX11_layPairs_55 (fun r_29 u_25 hp_26 ws_28 hw_27 => ?_)
              obtain rfl : r_29 = hasF (nI t) i := hp_26
              have hw_27x : ws_28 = [(mm, .inr (11, [.int le_, .ref mtx, .int po_, .ref mnu, .int fa_, .int rcl_, .int rle_, .ref mrc, .ref mrw, .ref mrl, .int (nI n), .ref mki, .ref mwa, .int ls_, .ref mle, .ref mno, .ref mtr, .ref mse, .ref mba, .int ba_, .ref mim, .int km_, .int si_, .ref msi, .ref mfo, .int fm_, .ref mor, .ref mbo, .ref mma, .ref mbm, .ref mso])), (mno, .inl (V.2.2.1, 15, .inl (stF day w g))), (mma, .inl (V.2.2.1, 7, .inl m1)), (mbm, .inl (V.2.2.1, 7, .inl bo1))] := hw_27.symm
              clear hw_27; subst hw_27x
              refine g_if_eq X 67 dX11_layPairs_58 (by decide) (fun c58_30 => ?_) (fun c58_30 => ?_)
              · have hil : i = loM n t := lo_i hlo (by omega) ((has_bit t ht8 i (by omega)).mp c58_30)
                have hlu := lu_M code (by omega) j (by omega)
                refine g_iload_n X dX11_layPairs_67 rfl ?_
                refine g_iload X dX11_layPairs_68 rfl ?_
                refine g_idiv X dX11_layPairs_70 (fun z => absurd ((nI_z (by omega)).mp z) (by omega)) ?_
                refine g_toe (x' := nI ((lM code j) / (uM j))) (nI_div' rfl rfl (by omega) (by omega) (by omega)) ?_
                refine g_toe (x' := nI (qM code j)) (by rw [hlu.2.2.2.1]) ?_
                refine g_istore X (L' := [some (.ref mm), some (.int be), some (.int (nI code)), some (.int (nI (lM code j))), some (.int (nI t)), some (.int su), some (.int so), some (.int (nI (uM j))), some (.int (chM j)), some (.int (nI j)), some (.int (nI i)), some (.int (nI (qM code j))), none, none, none]) dX11_layPairs_71 (by decide) rfl rfl ?_
                refine g_iload_n X dX11_layPairs_73 rfl ?_
                refine g_iload X dX11_layPairs_74 rfl ?_
                refine g_rem X dX11_layPairs_76 (fun z => absurd ((nI_z (by omega)).mp z) (by omega)) ?_
                refine g_toe (x' := nI ((lM code j) % (uM j))) (nI_mod' rfl rfl (by omega) (by omega) (by omega)) ?_
                refine g_toe (x' := nI (lM code (j + 1))) (by rw [hlu.2.2.2.2.1]) ?_
                refine g_istore_n X (L' := [some (.ref mm), some (.int be), some (.int (nI code)), some (.int (nI (lM code (j + 1)))), some (.int (nI t)), some (.int su), some (.int so), some (.int (nI (uM j))), some (.int (chM j)), some (.int (nI j)), some (.int (nI i)), some (.int (nI (qM code j))), none, none, none]) dX11_layPairs_77 (by decide) rfl rfl ?_
                refine g_iinc X (v := chM (j + 1)) (L' := [some (.ref mm), some (.int be), some (.int (nI code)), some (.int (nI (lM code (j + 1)))), some (.int (nI t)), some (.int su), some (.int so), some (.int (nI (uM j))), some (.int (chM (j + 1))), some (.int (nI j)), some (.int (nI i)), some (.int (nI (qM code j))), none, none, none]) dX11_layPairs_78 rfl (ch_dec j (by omega)) (by decide) rfl rfl ?_
                refine g_iload X dX11_layPairs_81 rfl ?_
                refine g_iload X dX11_layPairs_83 rfl ?_
                refine g_iconst X (1) dX11_layPairs_85 (by decide) ?_
                refine g_icmp_le X 94 dX11_layPairs_86 (by decide) (fun c86_31 => ?_) (fun c86_31 => ?_)
                · have c86_31d := Int32.not_lt.mpr c86_31
                  refine g_iconst X (1) dX11_layPairs_94 (by decide) ?_
                  refine g_idiv X dX11_layPairs_95 (by first | decide | exact (un_F j (by omega) (by assumption)).2) ?_
                  refine g_toe (x' := nI ((uM j) / 1)) (nI_div' rfl rfl (by omega) (by omega) (by omega)) ?_
                  refine g_toe (x' := nI (uM (j + 1))) (by rw [un_T j (by omega) c86_31]) ?_
                  refine g_istore X (L' := [some (.ref mm), some (.int be), some (.int (nI code)), some (.int (nI (lM code (j + 1)))), some (.int (nI t)), some (.int su), some (.int so), some (.int (nI (uM (j + 1)))), some (.int (chM (j + 1))), some (.int (nI j)), some (.int (nI i)), some (.int (nI (qM code j))), none, none, none]) dX11_layPairs_96 (by decide) rfl rfl ?_
                  refine g_iload X dX11_layPairs_98 rfl ?_
                  refine g_aload_n X dX11_layPairs_100 rfl ?_
                  refine g_get X uwX11 0 rfl rfl 10 (by decide) kl_X11_91 rfl rfl gwX11 dX11_layPairs_101 ?_
                  refine g_icmp_ne X 127 dX11_layPairs_104 (by decide) (fun c104_32 => ?_) (fun c104_32 => absurd c104_32 (tne (a := i) (b := n) (by omega) (by omega) (by omega)))
                  refine g_iload X dX11_layPairs_127 rfl ?_
                  refine g_iconst X (1) dX11_layPairs_129 (by decide) ?_
                  refine g_iadd X dX11_layPairs_130 ?_
                  refine g_toe (x' := nI (i + 1)) (nI_add' rfl rfl) ?_
                  refine g_istore X (L' := [some (.ref mm), some (.int be), some (.int (nI code)), some (.int (nI (lM code (j + 1)))), some (.int (nI t)), some (.int su), some (.int so), some (.int (nI (uM (j + 1)))), some (.int (chM (j + 1))), some (.int (nI j)), some (.int (nI i)), some (.int (nI (qM code j))), some (.int (nI (i + 1))), none, none]) dX11_layPairs_131 (by decide) rfl rfl ?_
                  refine g_iload X dX11_layPairs_133 rfl ?_
                  refine g_istore X (L' := [some (.ref mm), some (.int be), some (.int (nI code)), some (.int (nI (lM code (j + 1)))), some (.int (nI t)), some (.int su), some (.int so), some (.int (nI (uM (j + 1)))), some (.int (chM (j + 1))), some (.int (nI j)), some (.int (nI i)), some (.int (nI (qM code j))), some (.int (nI (i + 1))), some (.int (nI (qM code j))), none]) dX11_layPairs_135 (by decide) rfl rfl ?_
                  have loop137_33 : ∀ (d137 kk : Nat), kk + d137 = n → ∀ (r : Nat) (hik : i < kk) (hrc : r + cnt (hP t i) kk = qM code j) (hhi : fst1 (hiP t i (qM code j)) kk = none), G V Z 15 (0, 0) [(mm, .inr (11, [.int le_, .ref mtx, .int po_, .ref mnu, .int fa_, .int rcl_, .int rle_, .ref mrc, .ref mrw, .ref mrl, .int (nI n), .ref mki, .ref mwa, .int ls_, .ref mle, .ref mno, .ref mtr, .ref mse, .ref mba, .int ba_, .ref mim, .int km_, .int si_, .ref msi, .ref mfo, .int fm_, .ref mor, .ref mbo, .ref mma, .ref mbm, .ref mso])), (mno, .inl (V.2.2.1, 15, .inl (stF day w g))), (mma, .inl (V.2.2.1, 7, .inl m1)), (mbm, .inl (V.2.2.1, 7, .inl bo1))] 137 [some (.ref mm), some (.int be), some (.int (nI code)), some (.int (nI (lM code (j + 1)))), some (.int (nI t)), some (.int su), some (.int so), some (.int (nI (uM (j + 1)))), some (.int (chM (j + 1))), some (.int (nI j)), some (.int (nI i)), some (.int (nI (qM code j))), some (.int (nI kk)), some (.int (nI r)), none] [] := by
                    intro d137
                    induction d137 with
                    | zero =>
                      intro kk hkk r hik hrc hhi
                      refine g_iload X dX11_layPairs_137 rfl ?_
                      refine g_aload_n X dX11_layPairs_139 rfl ?_
                      refine g_get X uwX11 0 rfl rfl 10 (by decide) kl_X11_91 rfl rfl gwX11 dX11_layPairs_140 ?_
                      refine g_icmp_ge X 187 dX11_layPairs_143 (by decide) (fun c143_34 => ?_) (fun c143_34 => absurd (tge (a := kk) (b := n) (by omega) (by omega) (by omega)) c143_34)
                      refine g_iload X dX11_layPairs_187 rfl ?_
                      refine g_aload_n X dX11_layPairs_189 rfl ?_
                      refine g_get X uwX11 0 rfl rfl 10 (by decide) kl_X11_91 rfl rfl gwX11 dX11_layPairs_190 ?_
                      refine g_icmp_lt X 200 dX11_layPairs_193 (by decide) (fun c193_35 => absurd c193_35 (flt (a := kk) (b := n) (by omega) (by omega) (by omega))) (fun c193_35 => ?_)
                      refine g_iconst X (1) dX11_layPairs_196 (by decide) ?_
                      refine g_goto X 201 dX11_layPairs_197 (by decide) ?_
                      refine g_istore X (L' := [some (.ref mm), some (.int be), some (.int (nI code)), some (.int (nI (lM code (j + 1)))), some (.int (nI t)), some (.int su), some (.int so), some (.int (nI (uM (j + 1)))), some (.int (chM (j + 1))), some (.int (nI j)), some (.int (nI i)), some (.int (nI (qM code j))), some (.int (nI kk)), some (.int (nI r)), some (.int 1)]) dX11_layPairs_201 (by decide) rfl rfl ?_
                      refine g_iload X dX11_layPairs_203 rfl ?_
                      refine g_if_eq X 242 dX11_layPairs_205 (by decide) (fun c205_36 => ?_) (fun c205_36 => ?_)
                      · refine g_iconst X (0) dX11_layPairs_242 (by decide) ?_
                        refine g_istore X (L' := [some (.ref mm), some (.int be), some (.int (nI code)), some (.int (nI (lM code (j + 1)))), some (.int (nI t)), some (.int su), some (.int 0), some (.int (nI (uM (j + 1)))), some (.int (chM (j + 1))), some (.int (nI j)), some (.int (nI i)), some (.int (nI (qM code j))), some (.int (nI kk)), some (.int (nI r)), some (.int 1)]) dX11_layPairs_243 (by decide) rfl rfl ?_
                        refine g_iload X dX11_layPairs_245 rfl ?_
                        refine g_iconst X (1) dX11_layPairs_247 (by decide) ?_
                        refine g_iload X dX11_layPairs_248 rfl ?_
                        refine g_ishl X dX11_layPairs_250 ?_
                        refine g_ior X dX11_layPairs_251 ?_
                        refine g_toe (x' := nI (t ||| 2 ^ i)) (bitor t ht8 i (by omega)) ?_
                        refine g_iload X dX11_layPairs_252 rfl ?_
                        refine g_if_eq X 263 dX11_layPairs_254 (by decide) (fun c254_37 => absurd c254_37 (by decide)) (fun c254_37 => ?_)
                        refine g_sipush X (128) dX11_layPairs_257 (by decide) ?_
                        refine g_goto X 267 dX11_layPairs_260 (by decide) ?_
                        refine g_ior X dX11_layPairs_267 ?_
                        refine g_toe (x' := nI (t ||| 2 ^ i ||| 128)) (or128 _ (bitor_lt ht8 (by omega))) ?_
                        refine g_istore X (L' := [some (.ref mm), some (.int be), some (.int (nI code)), some (.int (nI (lM code (j + 1)))), some (.int (nI (t ||| 2 ^ i ||| 128))), some (.int su), some (.int 0), some (.int (nI (uM (j + 1)))), some (.int (chM (j + 1))), some (.int (nI j)), some (.int (nI i)), some (.int (nI (qM code j))), some (.int (nI kk)), some (.int (nI r)), some (.int 1)]) dX11_layPairs_268 (by decide) rfl rfl ?_
                        refine g_aload_n X dX11_layPairs_270 rfl ?_
                        refine g_get X uwX11 0 rfl rfl 28 (by decide) kl_X11_61 rfl rfl gwX11 dX11_layPairs_271 ?_
                        refine g_iload X dX11_layPairs_274 rfl ?_
                        refine g_iload X dX11_layPairs_276 rfl ?_
                        refine g_if_eq X 286 dX11_layPairs_278 (by decide) (fun c278_38 => absurd c278_38 (by decide)) (fun c278_38 => ?_)
                        refine g_bipush X (-4) dX11_layPairs_281 (by decide) ?_
                        refine g_goto X 288 dX11_layPairs_283 (by decide) ?_
                        refine g_iast' X 2 rfl (i := i) rfl (by omega) (by omega) (ws' := [(mm, .inr (11, [.int le_, .ref mtx, .int po_, .ref mnu, .int fa_, .int rcl_, .int rle_, .ref mrc, .ref mrw, .ref mrl, .int (nI n), .ref mki, .ref mwa, .int ls_, .ref mle, .ref mno, .ref mtr, .ref mse, .ref mba, .int ba_, .ref mim, .int km_, .int si_, .ref msi, .ref mfo, .int fm_, .ref mor, .ref mbo, .ref mma, .ref mbm, .ref mso])), (mno, .inl (V.2.2.1, 15, .inl (stF day w g))), (mma, .inl (V.2.2.1, 7, .inl (upd m1 i (-4)))), (mbm, .inl (V.2.2.1, 7, .inl bo1))]) rfl dX11_layPairs_288 ?_
                        refine g_iload X dX11_layPairs_289 rfl ?_
                        refine g_if_ne X 330 dX11_layPairs_291 (by decide) (fun c291_39 => ?_) (fun c291_39 => absurd c291_39 (by decide))
                        have hst := st_3 ht hil (by omega) (show kk = n by omega) (hi_n (by omega) hhi hrc)
                        refine g_iinc X (v := nI (j + 1)) (L' := [some (.ref mm), some (.int be), some (.int (nI code)), some (.int (nI (lM code (j + 1)))), some (.int (nI (t ||| 2 ^ i ||| 128))), some (.int su), some (.int 0), some (.int (nI (uM (j + 1)))), some (.int (chM (j + 1))), some (.int (nI (j + 1))), some (.int (nI i)), some (.int (nI (qM code j))), some (.int (nI kk)), some (.int (nI r)), some (.int 1)]) dX11_layPairs_330 rfl (nI_addk (by decide)) (by decide) rfl rfl ?_
                        refine g_goto X 33 dX11_layPairs_333 (by decide) ?_
                        refine g_sub (L' := [some (.ref mm), some (.int be), some (.int (nI code)), some (.int (nI (lM code (j + 1)))), some (.int (nI (t ||| 2 ^ i ||| 128))), some (.int su), some (.int 0), some (.int (nI (uM (j + 1)))), some (.int (chM (j + 1))), some (.int (nI (j + 1))), none, none, none, none, none]) ⟨rfl, ⟨rfl, ⟨rfl, ⟨rfl, ⟨rfl, ⟨rfl, ⟨rfl, ⟨rfl, ⟨rfl, ⟨rfl, trivial⟩⟩⟩⟩⟩⟩⟩⟩⟩⟩ ?_
                        exact ih33 (j + 1) (by omega) (t ||| 2 ^ i ||| 128) su 0 (upd m1 i (-4)) (by rw [hst]) (by rw [hst, sumL_a, if_neg (by show ¬ n < n; omega), ← hsu]) (by rw [hst]; simp [so_b0 hso c205_36]) (by rw [hst, matL_a, if_neg (by show ¬ n < n; omega), ← hm1])
                      · refine g_iload X dX11_layPairs_208 rfl ?_
                        refine g_if_eq X 238 dX11_layPairs_210 (by decide) (fun c210_40 => absurd c210_40 (by decide)) (fun c210_40 => ?_)
                        refine g_iload X dX11_layPairs_213 rfl ?_
                        refine g_if_ne X 242 dX11_layPairs_215 (by decide) (fun c215_41 => ?_) (fun c215_41 => ?_)
                        · have c215_41n := ine' (a := r) (b := 0) c215_41 (by omega) (by omega)
                          refine g_iconst X (0) dX11_layPairs_242 (by decide) ?_
                          refine g_istore X (L' := [some (.ref mm), some (.int be), some (.int (nI code)), some (.int (nI (lM code (j + 1)))), some (.int (nI t)), some (.int su), some (.int 0), some (.int (nI (uM (j + 1)))), some (.int (chM (j + 1))), some (.int (nI j)), some (.int (nI i)), some (.int (nI (qM code j))), some (.int (nI kk)), some (.int (nI r)), some (.int 1)]) dX11_layPairs_243 (by decide) rfl rfl ?_
                          refine g_iload X dX11_layPairs_245 rfl ?_
                          refine g_iconst X (1) dX11_layPairs_247 (by decide) ?_
                          refine g_iload X dX11_layPairs_248 rfl ?_
                          refine g_ishl X dX11_layPairs_250 ?_
                          refine g_ior X dX11_layPairs_251 ?_
                          refine g_toe (x' := nI (t ||| 2 ^ i)) (bitor t ht8 i (by omega)) ?_
                          refine g_iload X dX11_layPairs_252 rfl ?_
                          refine g_if_eq X 263 dX11_layPairs_254 (by decide) (fun c254_42 => absurd c254_42 (by decide)) (fun c254_42 => ?_)
                          refine g_sipush X (128) dX11_layPairs_257 (by decide) ?_
                          refine g_goto X 267 dX11_layPairs_260 (by decide) ?_
                          refine g_ior X dX11_layPairs_267 ?_
                          refine g_toe (x' := nI (t ||| 2 ^ i ||| 128)) (or128 _ (bitor_lt ht8 (by omega))) ?_
                          refine g_istore X (L' := [some (.ref mm), some (.int be), some (.int (nI code)), some (.int (nI (lM code (j + 1)))), some (.int (nI (t ||| 2 ^ i ||| 128))), some (.int su), some (.int 0), some (.int (nI (uM (j + 1)))), some (.int (chM (j + 1))), some (.int (nI j)), some (.int (nI i)), some (.int (nI (qM code j))), some (.int (nI kk)), some (.int (nI r)), some (.int 1)]) dX11_layPairs_268 (by decide) rfl rfl ?_
                          refine g_aload_n X dX11_layPairs_270 rfl ?_
                          refine g_get X uwX11 0 rfl rfl 28 (by decide) kl_X11_61 rfl rfl gwX11 dX11_layPairs_271 ?_
                          refine g_iload X dX11_layPairs_274 rfl ?_
                          refine g_iload X dX11_layPairs_276 rfl ?_
                          refine g_if_eq X 286 dX11_layPairs_278 (by decide) (fun c278_43 => absurd c278_43 (by decide)) (fun c278_43 => ?_)
                          refine g_bipush X (-4) dX11_layPairs_281 (by decide) ?_
                          refine g_goto X 288 dX11_layPairs_283 (by decide) ?_
                          refine g_iast' X 2 rfl (i := i) rfl (by omega) (by omega) (ws' := [(mm, .inr (11, [.int le_, .ref mtx, .int po_, .ref mnu, .int fa_, .int rcl_, .int rle_, .ref mrc, .ref mrw, .ref mrl, .int (nI n), .ref mki, .ref mwa, .int ls_, .ref mle, .ref mno, .ref mtr, .ref mse, .ref mba, .int ba_, .ref mim, .int km_, .int si_, .ref msi, .ref mfo, .int fm_, .ref mor, .ref mbo, .ref mma, .ref mbm, .ref mso])), (mno, .inl (V.2.2.1, 15, .inl (stF day w g))), (mma, .inl (V.2.2.1, 7, .inl (upd m1 i (-4)))), (mbm, .inl (V.2.2.1, 7, .inl bo1))]) rfl dX11_layPairs_288 ?_
                          refine g_iload X dX11_layPairs_289 rfl ?_
                          refine g_if_ne X 330 dX11_layPairs_291 (by decide) (fun c291_44 => ?_) (fun c291_44 => absurd c291_44 (by decide))
                          have hst := st_3 ht hil (by omega) (show kk = n by omega) (hi_n (by omega) hhi hrc)
                          refine g_iinc X (v := nI (j + 1)) (L' := [some (.ref mm), some (.int be), some (.int (nI code)), some (.int (nI (lM code (j + 1)))), some (.int (nI (t ||| 2 ^ i ||| 128))), some (.int su), some (.int 0), some (.int (nI (uM (j + 1)))), some (.int (chM (j + 1))), some (.int (nI (j + 1))), some (.int (nI i)), some (.int (nI (qM code j))), some (.int (nI kk)), some (.int (nI r)), some (.int 1)]) dX11_layPairs_330 rfl (nI_addk (by decide)) (by decide) rfl rfl ?_
                          refine g_goto X 33 dX11_layPairs_333 (by decide) ?_
                          refine g_sub (L' := [some (.ref mm), some (.int be), some (.int (nI code)), some (.int (nI (lM code (j + 1)))), some (.int (nI (t ||| 2 ^ i ||| 128))), some (.int su), some (.int 0), some (.int (nI (uM (j + 1)))), some (.int (chM (j + 1))), some (.int (nI (j + 1))), none, none, none, none, none]) ⟨rfl, ⟨rfl, ⟨rfl, ⟨rfl, ⟨rfl, ⟨rfl, ⟨rfl, ⟨rfl, ⟨rfl, ⟨rfl, trivial⟩⟩⟩⟩⟩⟩⟩⟩⟩⟩ ?_
                          exact ih33 (j + 1) (by omega) (t ||| 2 ^ i ||| 128) su 0 (upd m1 i (-4)) (by rw [hst]) (by rw [hst, sumL_a, if_neg (by show ¬ n < n; omega), ← hsu]) (by rw [hst]; simp [so_b1 hso c205_36, c215_41n]) (by rw [hst, matL_a, if_neg (by show ¬ n < n; omega), ← hm1])
                        · have c215_41n := ieq' (a := r) (b := 0) c215_41 (by omega) (by omega)
                          refine g_aload_n X dX11_layPairs_218 rfl ?_
                          refine g_get X uwX11 0 rfl rfl 10 (by decide) kl_X11_91 rfl rfl gwX11 dX11_layPairs_219 ?_
                          refine g_iconst X (2) dX11_layPairs_222 (by decide) ?_
                          refine g_rem X dX11_layPairs_223 (by decide) ?_
                          refine g_toe (x' := nI (n % 2)) (nI_mod' rfl rfl (by omega) (by omega) (by omega)) ?_
                          refine g_iconst X (1) dX11_layPairs_224 (by decide) ?_
                          refine g_icmp_ne X 242 dX11_layPairs_225 (by decide) (fun c225_45 => ?_) (fun c225_45 => ?_)
                          · have c225_45n := ine' (a := n % 2) (b := 1) c225_45 (by omega) (by omega)
                            refine g_iconst X (0) dX11_layPairs_242 (by decide) ?_
                            refine g_istore X (L' := [some (.ref mm), some (.int be), some (.int (nI code)), some (.int (nI (lM code (j + 1)))), some (.int (nI t)), some (.int su), some (.int 0), some (.int (nI (uM (j + 1)))), some (.int (chM (j + 1))), some (.int (nI j)), some (.int (nI i)), some (.int (nI (qM code j))), some (.int (nI kk)), some (.int (nI r)), some (.int 1)]) dX11_layPairs_243 (by decide) rfl rfl ?_
                            refine g_iload X dX11_layPairs_245 rfl ?_
                            refine g_iconst X (1) dX11_layPairs_247 (by decide) ?_
                            refine g_iload X dX11_layPairs_248 rfl ?_
                            refine g_ishl X dX11_layPairs_250 ?_
                            refine g_ior X dX11_layPairs_251 ?_
                            refine g_toe (x' := nI (t ||| 2 ^ i)) (bitor t ht8 i (by omega)) ?_
                            refine g_iload X dX11_layPairs_252 rfl ?_
                            refine g_if_eq X 263 dX11_layPairs_254 (by decide) (fun c254_46 => absurd c254_46 (by decide)) (fun c254_46 => ?_)
                            refine g_sipush X (128) dX11_layPairs_257 (by decide) ?_
                            refine g_goto X 267 dX11_layPairs_260 (by decide) ?_
                            refine g_ior X dX11_layPairs_267 ?_
                            refine g_toe (x' := nI (t ||| 2 ^ i ||| 128)) (or128 _ (bitor_lt ht8 (by omega))) ?_
                            refine g_istore X (L' := [some (.ref mm), some (.int be), some (.int (nI code)), some (.int (nI (lM code (j + 1)))), some (.int (nI (t ||| 2 ^ i ||| 128))), some (.int su), some (.int 0), some (.int (nI (uM (j + 1)))), some (.int (chM (j + 1))), some (.int (nI j)), some (.int (nI i)), some (.int (nI (qM code j))), some (.int (nI kk)), some (.int (nI r)), some (.int 1)]) dX11_layPairs_268 (by decide) rfl rfl ?_
                            refine g_aload_n X dX11_layPairs_270 rfl ?_
                            refine g_get X uwX11 0 rfl rfl 28 (by decide) kl_X11_61 rfl rfl gwX11 dX11_layPairs_271 ?_
                            refine g_iload X dX11_layPairs_274 rfl ?_
                            refine g_iload X dX11_layPairs_276 rfl ?_
                            refine g_if_eq X 286 dX11_layPairs_278 (by decide) (fun c278_47 => absurd c278_47 (by decide)) (fun c278_47 => ?_)
                            refine g_bipush X (-4) dX11_layPairs_281 (by decide) ?_
                            refine g_goto X 288 dX11_layPairs_283 (by decide) ?_
                            refine g_iast' X 2 rfl (i := i) rfl (by omega) (by omega) (ws' := [(mm, .inr (11, [.int le_, .ref mtx, .int po_, .ref mnu, .int fa_, .int rcl_, .int rle_, .ref mrc, .ref mrw, .ref mrl, .int (nI n), .ref mki, .ref mwa, .int ls_, .ref mle, .ref mno, .ref mtr, .ref mse, .ref mba, .int ba_, .ref mim, .int km_, .int si_, .ref msi, .ref mfo, .int fm_, .ref mor, .ref mbo, .ref mma, .ref mbm, .ref mso])), (mno, .inl (V.2.2.1, 15, .inl (stF day w g))), (mma, .inl (V.2.2.1, 7, .inl (upd m1 i (-4)))), (mbm, .inl (V.2.2.1, 7, .inl bo1))]) rfl dX11_layPairs_288 ?_
                            refine g_iload X dX11_layPairs_289 rfl ?_
                            refine g_if_ne X 330 dX11_layPairs_291 (by decide) (fun c291_48 => ?_) (fun c291_48 => absurd c291_48 (by decide))
                            have hst := st_3 ht hil (by omega) (show kk = n by omega) (hi_n (by omega) hhi hrc)
                            refine g_iinc X (v := nI (j + 1)) (L' := [some (.ref mm), some (.int be), some (.int (nI code)), some (.int (nI (lM code (j + 1)))), some (.int (nI (t ||| 2 ^ i ||| 128))), some (.int su), some (.int 0), some (.int (nI (uM (j + 1)))), some (.int (chM (j + 1))), some (.int (nI (j + 1))), some (.int (nI i)), some (.int (nI (qM code j))), some (.int (nI kk)), some (.int (nI r)), some (.int 1)]) dX11_layPairs_330 rfl (nI_addk (by decide)) (by decide) rfl rfl ?_
                            refine g_goto X 33 dX11_layPairs_333 (by decide) ?_
                            refine g_sub (L' := [some (.ref mm), some (.int be), some (.int (nI code)), some (.int (nI (lM code (j + 1)))), some (.int (nI (t ||| 2 ^ i ||| 128))), some (.int su), some (.int 0), some (.int (nI (uM (j + 1)))), some (.int (chM (j + 1))), some (.int (nI (j + 1))), none, none, none, none, none]) ⟨rfl, ⟨rfl, ⟨rfl, ⟨rfl, ⟨rfl, ⟨rfl, ⟨rfl, ⟨rfl, ⟨rfl, ⟨rfl, trivial⟩⟩⟩⟩⟩⟩⟩⟩⟩⟩ ?_
                            exact ih33 (j + 1) (by omega) (t ||| 2 ^ i ||| 128) su 0 (upd m1 i (-4)) (by rw [hst]) (by rw [hst, sumL_a, if_neg (by show ¬ n < n; omega), ← hsu]) (by rw [hst]; simp [so_b1 hso c205_36, c215_41n, c225_45n]) (by rw [hst, matL_a, if_neg (by show ¬ n < n; omega), ← hm1])
                          · have c225_45n := ieq' (a := n % 2) (b := 1) c225_45 (by omega) (by omega)
                            refine g_iload X dX11_layPairs_228 rfl ?_
                            refine g_bipush X (7) dX11_layPairs_230 (by decide) ?_
                            refine g_callSi X (c_X11_has V (nI t) 7) mo_X11_has kl_X11_158 [] [0, 0, 0, 0] rfl (by decide +kernel) rfl rfl (fun _ => Nat.le_of_ble_eq_true rfl) (As := [.int (nI t), .int 7]) (st := []) (cs' := (0, 0)) rfl rfl rfl dX11_layPairs_232 (fun r_53 u_49 hp_50 ws_52 hw_51 => ?_)
                            obtain rfl : r_53 = hasF (nI t) 7 := hp_50
                            have hw_51x : ws_52 = [(mm, .inr (11, [.int le_, .ref mtx, .int po_, .ref mnu, .int fa_, .int rcl_, .int rle_, .ref mrc, .ref mrw, .ref mrl, .int (nI n), .ref mki, .ref mwa, .int ls_, .ref mle, .ref mno, .ref mtr, .ref mse, .ref mba, .int ba_, .ref mim, .int km_, .int si_, .ref msi, .ref mfo, .int fm_, .ref mor, .ref mbo, .ref mma, .ref mbm, .ref mso])), (mno, .inl (V.2.2.1, 15, .inl (stF day w g))), (mma, .inl (V.2.2.1, 7, .inl m1)), (mbm, .inl (V.2.2.1, 7, .inl bo1))] := hw_51.symm
                            clear hw_51; subst hw_51x
                            refine g_if_ne X 242 dX11_layPairs_235 (by decide) (fun c235_54 => ?_) (fun c235_54 => ?_)
                            · have hb7 : t.testBit 7 = true := (by have z := c235_54; cases hb : t.testBit 7 with | true => rfl | false => exact absurd ((has_bit t ht8 7 (by omega)).mpr hb) z)
                              refine g_iconst X (0) dX11_layPairs_242 (by decide) ?_
                              refine g_istore X (L' := [some (.ref mm), some (.int be), some (.int (nI code)), some (.int (nI (lM code (j + 1)))), some (.int (nI t)), some (.int su), some (.int 0), some (.int (nI (uM (j + 1)))), some (.int (chM (j + 1))), some (.int (nI j)), some (.int (nI i)), some (.int (nI (qM code j))), some (.int (nI kk)), some (.int (nI r)), some (.int 1)]) dX11_layPairs_243 (by decide) rfl rfl ?_
                              refine g_iload X dX11_layPairs_245 rfl ?_
                              refine g_iconst X (1) dX11_layPairs_247 (by decide) ?_
                              refine g_iload X dX11_layPairs_248 rfl ?_
                              refine g_ishl X dX11_layPairs_250 ?_
                              refine g_ior X dX11_layPairs_251 ?_
                              refine g_toe (x' := nI (t ||| 2 ^ i)) (bitor t ht8 i (by omega)) ?_
                              refine g_iload X dX11_layPairs_252 rfl ?_
                              refine g_if_eq X 263 dX11_layPairs_254 (by decide) (fun c254_55 => absurd c254_55 (by decide)) (fun c254_55 => ?_)
                              refine g_sipush X (128) dX11_layPairs_257 (by decide) ?_
                              refine g_goto X 267 dX11_layPairs_260 (by decide) ?_
                              refine g_ior X dX11_layPairs_267 ?_
                              refine g_toe (x' := nI (t ||| 2 ^ i ||| 128)) (or128 _ (bitor_lt ht8 (by omega))) ?_
                              refine g_istore X (L' := [some (.ref mm), some (.int be), some (.int (nI code)), some (.int (nI (lM code (j + 1)))), some (.int (nI (t ||| 2 ^ i ||| 128))), some (.int su), some (.int 0), some (.int (nI (uM (j + 1)))), some (.int (chM (j + 1))), some (.int (nI j)), some (.int (nI i)), some (.int (nI (qM code j))), some (.int (nI kk)), some (.int (nI r)), some (.int 1)]) dX11_layPairs_268 (by decide) rfl rfl ?_
                              refine g_aload_n X dX11_layPairs_270 rfl ?_
                              refine g_get X uwX11 0 rfl rfl 28 (by decide) kl_X11_61 rfl rfl gwX11 dX11_layPairs_271 ?_
                              refine g_iload X dX11_layPairs_274 rfl ?_
                              refine g_iload X dX11_layPairs_276 rfl ?_
                              refine g_if_eq X 286 dX11_layPairs_278 (by decide) (fun c278_56 => absurd c278_56 (by decide)) (fun c278_56 => ?_)
                              refine g_bipush X (-4) dX11_layPairs_281 (by decide) ?_
                              refine g_goto X 288 dX11_layPairs_283 (by decide) ?_
                              refine g_iast' X 2 rfl (i := i) rfl (by omega) (by omega) (ws' := [(mm, .inr (11, [.int le_, .ref mtx, .int po_, .ref mnu, .int fa_, .int rcl_, .int rle_, .ref mrc, .ref mrw, .ref mrl, .int (nI n), .ref mki, .ref mwa, .int ls_, .ref mle, .ref mno, .ref mtr, .ref mse, .ref mba, .int ba_, .ref mim, .int km_, .int si_, .ref msi, .ref mfo, .int fm_, .ref mor, .ref mbo, .ref mma, .ref mbm, .ref mso])), (mno, .inl (V.2.2.1, 15, .inl (stF day w g))), (mma, .inl (V.2.2.1, 7, .inl (upd m1 i (-4)))), (mbm, .inl (V.2.2.1, 7, .inl bo1))]) rfl dX11_layPairs_288 ?_
                              refine g_iload X dX11_layPairs_289 rfl ?_
                              refine g_if_ne X 330 dX11_layPairs_291 (by decide) (fun c291_57 => ?_) (fun c291_57 => absurd c291_57 (by decide))
                              have hst := st_3 ht hil (by omega) (show kk = n by omega) (hi_n (by omega) hhi hrc)
                              refine g_iinc X (v := nI (j + 1)) (L' := [some (.ref mm), some (.int be), some (.int (nI code)), some (.int (nI (lM code (j + 1)))), some (.int (nI (t ||| 2 ^ i ||| 128))), some (.int su), some (.int 0), some (.int (nI (uM (j + 1)))), some (.int (chM (j + 1))), some (.int (nI (j + 1))), some (.int (nI i)), some (.int (nI (qM code j))), some (.int (nI kk)), some (.int (nI r)), some (.int 1)]) dX11_layPairs_330 rfl (nI_addk (by decide)) (by decide) rfl rfl ?_
                              refine g_goto X 33 dX11_layPairs_333 (by decide) ?_
                              refine g_sub (L' := [some (.ref mm), some (.int be), some (.int (nI code)), some (.int (nI (lM code (j + 1)))), some (.int (nI (t ||| 2 ^ i ||| 128))), some (.int su), some (.int 0), some (.int (nI (uM (j + 1)))), some (.int (chM (j + 1))), some (.int (nI (j + 1))), none, none, none, none, none]) ⟨rfl, ⟨rfl, ⟨rfl, ⟨rfl, ⟨rfl, ⟨rfl, ⟨rfl, ⟨rfl, ⟨rfl, ⟨rfl, trivial⟩⟩⟩⟩⟩⟩⟩⟩⟩⟩ ?_
                              exact ih33 (j + 1) (by omega) (t ||| 2 ^ i ||| 128) su 0 (upd m1 i (-4)) (by rw [hst]) (by rw [hst, sumL_a, if_neg (by show ¬ n < n; omega), ← hsu]) (by rw [hst]; simp [so_b1 hso c205_36, c215_41n, c225_45n, hb7]) (by rw [hst, matL_a, if_neg (by show ¬ n < n; omega), ← hm1])
                            · have hb7 : t.testBit 7 = false := ((has_bit t ht8 7 (by omega)).mp c235_54)
                              refine g_iconst X (1) dX11_layPairs_238 (by decide) ?_
                              refine g_goto X 243 dX11_layPairs_239 (by decide) ?_
                              refine g_istore X (L' := [some (.ref mm), some (.int be), some (.int (nI code)), some (.int (nI (lM code (j + 1)))), some (.int (nI t)), some (.int su), some (.int 1), some (.int (nI (uM (j + 1)))), some (.int (chM (j + 1))), some (.int (nI j)), some (.int (nI i)), some (.int (nI (qM code j))), some (.int (nI kk)), some (.int (nI r)), some (.int 1)]) dX11_layPairs_243 (by decide) rfl rfl ?_
                              refine g_iload X dX11_layPairs_245 rfl ?_
                              refine g_iconst X (1) dX11_layPairs_247 (by decide) ?_
                              refine g_iload X dX11_layPairs_248 rfl ?_
                              refine g_ishl X dX11_layPairs_250 ?_
                              refine g_ior X dX11_layPairs_251 ?_
                              refine g_toe (x' := nI (t ||| 2 ^ i)) (bitor t ht8 i (by omega)) ?_
                              refine g_iload X dX11_layPairs_252 rfl ?_
                              refine g_if_eq X 263 dX11_layPairs_254 (by decide) (fun c254_58 => absurd c254_58 (by decide)) (fun c254_58 => ?_)
                              refine g_sipush X (128) dX11_layPairs_257 (by decide) ?_
                              refine g_goto X 267 dX11_layPairs_260 (by decide) ?_
                              refine g_ior X dX11_layPairs_267 ?_
                              refine g_toe (x' := nI (t ||| 2 ^ i ||| 128)) (or128 _ (bitor_lt ht8 (by omega))) ?_
                              refine g_istore X (L' := [some (.ref mm), some (.int be), some (.int (nI code)), some (.int (nI (lM code (j + 1)))), some (.int (nI (t ||| 2 ^ i ||| 128))), some (.int su), some (.int 1), some (.int (nI (uM (j + 1)))), some (.int (chM (j + 1))), some (.int (nI j)), some (.int (nI i)), some (.int (nI (qM code j))), some (.int (nI kk)), some (.int (nI r)), some (.int 1)]) dX11_layPairs_268 (by decide) rfl rfl ?_
                              refine g_aload_n X dX11_layPairs_270 rfl ?_
                              refine g_get X uwX11 0 rfl rfl 28 (by decide) kl_X11_61 rfl rfl gwX11 dX11_layPairs_271 ?_
                              refine g_iload X dX11_layPairs_274 rfl ?_
                              refine g_iload X dX11_layPairs_276 rfl ?_
                              refine g_if_eq X 286 dX11_layPairs_278 (by decide) (fun c278_59 => absurd c278_59 (by decide)) (fun c278_59 => ?_)
                              refine g_bipush X (-4) dX11_layPairs_281 (by decide) ?_
                              refine g_goto X 288 dX11_layPairs_283 (by decide) ?_
                              refine g_iast' X 2 rfl (i := i) rfl (by omega) (by omega) (ws' := [(mm, .inr (11, [.int le_, .ref mtx, .int po_, .ref mnu, .int fa_, .int rcl_, .int rle_, .ref mrc, .ref mrw, .ref mrl, .int (nI n), .ref mki, .ref mwa, .int ls_, .ref mle, .ref mno, .ref mtr, .ref mse, .ref mba, .int ba_, .ref mim, .int km_, .int si_, .ref msi, .ref mfo, .int fm_, .ref mor, .ref mbo, .ref mma, .ref mbm, .ref mso])), (mno, .inl (V.2.2.1, 15, .inl (stF day w g))), (mma, .inl (V.2.2.1, 7, .inl (upd m1 i (-4)))), (mbm, .inl (V.2.2.1, 7, .inl bo1))]) rfl dX11_layPairs_288 ?_
                              refine g_iload X dX11_layPairs_289 rfl ?_
                              refine g_if_ne X 330 dX11_layPairs_291 (by decide) (fun c291_60 => ?_) (fun c291_60 => absurd c291_60 (by decide))
                              have hst := st_3 ht hil (by omega) (show kk = n by omega) (hi_n (by omega) hhi hrc)
                              refine g_iinc X (v := nI (j + 1)) (L' := [some (.ref mm), some (.int be), some (.int (nI code)), some (.int (nI (lM code (j + 1)))), some (.int (nI (t ||| 2 ^ i ||| 128))), some (.int su), some (.int 1), some (.int (nI (uM (j + 1)))), some (.int (chM (j + 1))), some (.int (nI (j + 1))), some (.int (nI i)), some (.int (nI (qM code j))), some (.int (nI kk)), some (.int (nI r)), some (.int 1)]) dX11_layPairs_330 rfl (nI_addk (by decide)) (by decide) rfl rfl ?_
                              refine g_goto X 33 dX11_layPairs_333 (by decide) ?_
                              refine g_sub (L' := [some (.ref mm), some (.int be), some (.int (nI code)), some (.int (nI (lM code (j + 1)))), some (.int (nI (t ||| 2 ^ i ||| 128))), some (.int su), some (.int 1), some (.int (nI (uM (j + 1)))), some (.int (chM (j + 1))), some (.int (nI (j + 1))), none, none, none, none, none]) ⟨rfl, ⟨rfl, ⟨rfl, ⟨rfl, ⟨rfl, ⟨rfl, ⟨rfl, ⟨rfl, ⟨rfl, ⟨rfl, trivial⟩⟩⟩⟩⟩⟩⟩⟩⟩⟩ ?_
                              exact ih33 (j + 1) (by omega) (t ||| 2 ^ i ||| 128) su 1 (upd m1 i (-4)) (by rw [hst]) (by rw [hst, sumL_a, if_neg (by show ¬ n < n; omega), ← hsu]) (by rw [hst]; simp [so_b1 hso c205_36, c215_41n, c225_45n, hb7]) (by rw [hst, matL_a, if_neg (by show ¬ n < n; omega), ← hm1])
                    | succ d137 ih137 =>
                      intro kk hkk r hik hrc hhi
                      refine g_iload X dX11_layPairs_137 rfl ?_
                      refine g_aload_n X dX11_layPairs_139 rfl ?_
                      refine g_get X uwX11 0 rfl rfl 10 (by decide) kl_X11_91 rfl rfl gwX11 dX11_layPairs_140 ?_
                      refine g_icmp_ge X 187 dX11_layPairs_143 (by decide) (fun c143_61 => absurd c143_61 (fge (a := kk) (b := n) (by omega) (by omega) (by omega))) (fun c143_61 => ?_)
                      refine g_iload X dX11_layPairs_146 rfl ?_
                      refine g_iload X dX11_layPairs_148 rfl ?_
                      refine g_callSi X (c_X11_has V (nI t) kk) mo_X11_has kl_X11_158 [] [0, 0, 0, 0] rfl (by decide +kernel) rfl rfl (fun _ => Nat.le_of_ble_eq_true rfl) (As := [.int (nI t), .int (nI kk)]) (st := []) (cs' := (0, 0)) rfl rfl rfl dX11_layPairs_150 (fun r_66 u_62 hp_63 ws_65 hw_64 => ?_)
                      obtain rfl : r_66 = hasF (nI t) kk := hp_63
                      have hw_64x : ws_65 = [(mm, .inr (11, [.int le_, .ref mtx, .int po_, .ref mnu, .int fa_, .int rcl_, .int rle_, .ref mrc, .ref mrw, .ref mrl, .int (nI n), .ref mki, .ref mwa, .int ls_, .ref mle, .ref mno, .ref mtr, .ref mse, .ref mba, .int ba_, .ref mim, .int km_, .int si_, .ref msi, .ref mfo, .int fm_, .ref mor, .ref mbo, .ref mma, .ref mbm, .ref mso])), (mno, .inl (V.2.2.1, 15, .inl (stF day w g))), (mma, .inl (V.2.2.1, 7, .inl m1)), (mbm, .inl (V.2.2.1, 7, .inl bo1))] := hw_64.symm
                      clear hw_64; subst hw_64x
                      refine g_if_ne X 161 dX11_layPairs_153 (by decide) (fun c153_67 => ?_) (fun c153_67 => ?_)
                      · refine g_iload X dX11_layPairs_161 rfl ?_
                        refine g_iload X dX11_layPairs_163 rfl ?_
                        refine g_iload X dX11_layPairs_165 rfl ?_
                        refine g_callSi X (c_X11_has V (nI t) kk) mo_X11_has kl_X11_158 [] [0, 0, 0, 0] rfl (by decide +kernel) rfl rfl (fun _ => Nat.le_of_ble_eq_true rfl) (As := [.int (nI t), .int (nI kk)]) (st := [.int (nI r)]) (cs' := (0, 0)) rfl rfl rfl dX11_layPairs_167 (fun r_72 u_68 hp_69 ws_71 hw_70 => ?_)
                        obtain rfl : r_72 = hasF (nI t) kk := hp_69
                        have hw_70x : ws_71 = [(mm, .inr (11, [.int le_, .ref mtx, .int po_, .ref mnu, .int fa_, .int rcl_, .int rle_, .ref mrc, .ref mrw, .ref mrl, .int (nI n), .ref mki, .ref mwa, .int ls_, .ref mle, .ref mno, .ref mtr, .ref mse, .ref mba, .int ba_, .ref mim, .int km_, .int si_, .ref msi, .ref mfo, .int fm_, .ref mor, .ref mbo, .ref mma, .ref mbm, .ref mso])), (mno, .inl (V.2.2.1, 15, .inl (stF day w g))), (mma, .inl (V.2.2.1, 7, .inl m1)), (mbm, .inl (V.2.2.1, 7, .inl bo1))] := hw_70.symm
                        clear hw_70; subst hw_70x
                        refine g_if_eq X 177 dX11_layPairs_170 (by decide) (fun c170_73 => absurd c170_73 c153_67) (fun c170_73 => ?_)
                        refine g_iconst X (0) dX11_layPairs_173 (by decide) ?_
                        refine g_goto X 178 dX11_layPairs_174 (by decide) ?_
                        refine g_isub X dX11_layPairs_178 ?_
                        refine g_toe (x' := nI (r - 0)) (nI_sub' rfl rfl (by omega)) ?_
                        refine g_istore X (L' := [some (.ref mm), some (.int be), some (.int (nI code)), some (.int (nI (lM code (j + 1)))), some (.int (nI t)), some (.int su), some (.int so), some (.int (nI (uM (j + 1)))), some (.int (chM (j + 1))), some (.int (nI j)), some (.int (nI i)), some (.int (nI (qM code j))), some (.int (nI kk)), some (.int (nI (r - 0))), none]) dX11_layPairs_179 (by decide) rfl rfl ?_
                        refine g_iinc X (v := nI (kk + 1)) (L' := [some (.ref mm), some (.int be), some (.int (nI code)), some (.int (nI (lM code (j + 1)))), some (.int (nI t)), some (.int su), some (.int so), some (.int (nI (uM (j + 1)))), some (.int (chM (j + 1))), some (.int (nI j)), some (.int (nI i)), some (.int (nI (qM code j))), some (.int (nI (kk + 1))), some (.int (nI (r - 0))), none]) dX11_layPairs_181 rfl (nI_addk (by decide)) (by decide) rfl rfl ?_
                        refine g_goto X 137 dX11_layPairs_184 (by decide) ?_
                        exact ih137 (kk + 1) (by omega) (r - 0) (by omega) (h_T hrc (by have z := c153_67; cases hb : t.testBit kk with | true => rfl | false => exact absurd ((has_bit t ht8 kk (by omega)).mpr hb) z)) (g_T hhi (by have z := c153_67; cases hb : t.testBit kk with | true => rfl | false => exact absurd ((has_bit t ht8 kk (by omega)).mpr hb) z))
                      · refine g_iload X dX11_layPairs_156 rfl ?_
                        refine g_if_le X 187 dX11_layPairs_158 (by decide) (fun c158_74 => ?_) (fun c158_74 => ?_)
                        · have c158_74n := ile' (a := r) (b := 0) c158_74 (by omega) (by omega)
                          refine g_iload X dX11_layPairs_187 rfl ?_
                          refine g_aload_n X dX11_layPairs_189 rfl ?_
                          refine g_get X uwX11 0 rfl rfl 10 (by decide) kl_X11_91 rfl rfl gwX11 dX11_layPairs_190 ?_
                          refine g_icmp_lt X 200 dX11_layPairs_193 (by decide) (fun c193_75 => ?_) (fun c193_75 => absurd (tlt (a := kk) (b := n) (by omega) (by omega) (by omega)) c193_75)
                          refine g_iconst X (0) dX11_layPairs_200 (by decide) ?_
                          refine g_istore X (L' := [some (.ref mm), some (.int be), some (.int (nI code)), some (.int (nI (lM code (j + 1)))), some (.int (nI t)), some (.int su), some (.int so), some (.int (nI (uM (j + 1)))), some (.int (chM (j + 1))), some (.int (nI j)), some (.int (nI i)), some (.int (nI (qM code j))), some (.int (nI kk)), some (.int (nI r)), some (.int 0)]) dX11_layPairs_201 (by decide) rfl rfl ?_
                          refine g_iload X dX11_layPairs_203 rfl ?_
                          refine g_if_eq X 242 dX11_layPairs_205 (by decide) (fun c205_76 => ?_) (fun c205_76 => ?_)
                          · refine g_iconst X (0) dX11_layPairs_242 (by decide) ?_
                            refine g_istore X (L' := [some (.ref mm), some (.int be), some (.int (nI code)), some (.int (nI (lM code (j + 1)))), some (.int (nI t)), some (.int su), some (.int 0), some (.int (nI (uM (j + 1)))), some (.int (chM (j + 1))), some (.int (nI j)), some (.int (nI i)), some (.int (nI (qM code j))), some (.int (nI kk)), some (.int (nI r)), some (.int 0)]) dX11_layPairs_243 (by decide) rfl rfl ?_
                            refine g_iload X dX11_layPairs_245 rfl ?_
                            refine g_iconst X (1) dX11_layPairs_247 (by decide) ?_
                            refine g_iload X dX11_layPairs_248 rfl ?_
                            refine g_ishl X dX11_layPairs_250 ?_
                            refine g_ior X dX11_layPairs_251 ?_
                            refine g_toe (x' := nI (t ||| 2 ^ i)) (bitor t ht8 i (by omega)) ?_
                            refine g_iload X dX11_layPairs_252 rfl ?_
                            refine g_if_eq X 263 dX11_layPairs_254 (by decide) (fun c254_77 => ?_) (fun c254_77 => absurd rfl c254_77)
                            refine g_iconst X (1) dX11_layPairs_263 (by decide) ?_
                            refine g_iload X dX11_layPairs_264 rfl ?_
                            refine g_ishl X dX11_layPairs_266 ?_
                            refine g_ior X dX11_layPairs_267 ?_
                            refine g_toe (x' := nI (t ||| 2 ^ i ||| 2 ^ kk)) (bitor _ (bitor_lt ht8 (by omega)) kk (by omega)) ?_
                            refine g_istore X (L' := [some (.ref mm), some (.int be), some (.int (nI code)), some (.int (nI (lM code (j + 1)))), some (.int (nI (t ||| 2 ^ i ||| 2 ^ kk))), some (.int su), some (.int 0), some (.int (nI (uM (j + 1)))), some (.int (chM (j + 1))), some (.int (nI j)), some (.int (nI i)), some (.int (nI (qM code j))), some (.int (nI kk)), some (.int (nI r)), some (.int 0)]) dX11_layPairs_268 (by decide) rfl rfl ?_
                            refine g_aload_n X dX11_layPairs_270 rfl ?_
                            refine g_get X uwX11 0 rfl rfl 28 (by decide) kl_X11_61 rfl rfl gwX11 dX11_layPairs_271 ?_
                            refine g_iload X dX11_layPairs_274 rfl ?_
                            refine g_iload X dX11_layPairs_276 rfl ?_
                            refine g_if_eq X 286 dX11_layPairs_278 (by decide) (fun c278_78 => ?_) (fun c278_78 => absurd rfl c278_78)
                            refine g_iload X dX11_layPairs_286 rfl ?_
                            refine g_iast' X 2 rfl (i := i) rfl (by omega) (by omega) (ws' := [(mm, .inr (11, [.int le_, .ref mtx, .int po_, .ref mnu, .int fa_, .int rcl_, .int rle_, .ref mrc, .ref mrw, .ref mrl, .int (nI n), .ref mki, .ref mwa, .int ls_, .ref mle, .ref mno, .ref mtr, .ref mse, .ref mba, .int ba_, .ref mim, .int km_, .int si_, .ref msi, .ref mfo, .int fm_, .ref mor, .ref mbo, .ref mma, .ref mbm, .ref mso])), (mno, .inl (V.2.2.1, 15, .inl (stF day w g))), (mma, .inl (V.2.2.1, 7, .inl (upd m1 i (nI kk)))), (mbm, .inl (V.2.2.1, 7, .inl bo1))]) rfl dX11_layPairs_288 ?_
                            refine g_iload X dX11_layPairs_289 rfl ?_
                            refine g_if_ne X 330 dX11_layPairs_291 (by decide) (fun c291_79 => absurd rfl c291_79) (fun c291_79 => ?_)
                            refine g_aload_n X dX11_layPairs_294 rfl ?_
                            refine g_get X uwX11 0 rfl rfl 28 (by decide) kl_X11_61 rfl rfl gwX11 dX11_layPairs_295 ?_
                            refine g_iload X dX11_layPairs_298 rfl ?_
                            refine g_iload X dX11_layPairs_300 rfl ?_
                            refine g_iast' X 2 rfl (i := kk) rfl (by omega) (by omega) (ws' := [(mm, .inr (11, [.int le_, .ref mtx, .int po_, .ref mnu, .int fa_, .int rcl_, .int rle_, .ref mrc, .ref mrw, .ref mrl, .int (nI n), .ref mki, .ref mwa, .int ls_, .ref mle, .ref mno, .ref mtr, .ref mse, .ref mba, .int ba_, .ref mim, .int km_, .int si_, .ref msi, .ref mfo, .int fm_, .ref mor, .ref mbo, .ref mma, .ref mbm, .ref mso])), (mno, .inl (V.2.2.1, 15, .inl (stF day w g))), (mma, .inl (V.2.2.1, 7, .inl (upd (upd m1 i (nI kk)) kk (nI i)))), (mbm, .inl (V.2.2.1, 7, .inl bo1))]) rfl dX11_layPairs_302 ?_
                            refine g_iload X dX11_layPairs_303 rfl ?_
                            refine g_aload_n X dX11_layPairs_305 rfl ?_
                            refine g_get X uwX11 0 rfl rfl 15 (by decide) kl_X11_34 rfl rfl gwX11 dX11_layPairs_306 ?_
                            refine g_iconst X (1) dX11_layPairs_309 (by decide) ?_
                            refine g_iload X dX11_layPairs_310 rfl ?_
                            refine g_iadd X dX11_layPairs_312 ?_
                            refine g_toe (x' := nI (1 + kk)) (nI_add' rfl rfl) ?_
                            refine g_iald' X 1 rfl (i := (1 + kk)) rfl (by omega) (by omega) dX11_layPairs_313 ?_
                            refine g_toe (x' := w kk) (stF_w _ _ _ kk (by omega)) ?_
                            refine g_aload_n X dX11_layPairs_314 rfl ?_
                            refine g_get X uwX11 0 rfl rfl 15 (by decide) kl_X11_34 rfl rfl gwX11 dX11_layPairs_315 ?_
                            refine g_iconst X (1) dX11_layPairs_318 (by decide) ?_
                            refine g_iload X dX11_layPairs_319 rfl ?_
                            refine g_iadd X dX11_layPairs_321 ?_
                            refine g_toe (x' := nI (1 + i)) (nI_add' rfl rfl) ?_
                            refine g_iald' X 1 rfl (i := (1 + i)) rfl (by omega) (by omega) dX11_layPairs_322 ?_
                            refine g_toe (x' := w i) (stF_w _ _ _ i (by omega)) ?_
                            refine g_isub X dX11_layPairs_323 ?_
                            refine g_callSi X (c_X11_far V ((w kk) - (w i))) mo_X11_far kl_X11_151 [] [0, 0, 0, 0] rfl (by decide +kernel) rfl rfl (fun _ => Nat.le_of_ble_eq_true rfl) (As := [.int ((w kk) - (w i))]) (st := [.int su]) (cs' := (0, 0)) rfl rfl rfl dX11_layPairs_324 (fun r_84 u_80 hp_81 ws_83 hw_82 => ?_)
                            obtain rfl : r_84 = absF ((w kk) - (w i)) := hp_81
                            have hw_82x : ws_83 = [(mm, .inr (11, [.int le_, .ref mtx, .int po_, .ref mnu, .int fa_, .int rcl_, .int rle_, .ref mrc, .ref mrw, .ref mrl, .int (nI n), .ref mki, .ref mwa, .int ls_, .ref mle, .ref mno, .ref mtr, .ref mse, .ref mba, .int ba_, .ref mim, .int km_, .int si_, .ref msi, .ref mfo, .int fm_, .ref mor, .ref mbo, .ref mma, .ref mbm, .ref mso])), (mno, .inl (V.2.2.1, 15, .inl (stF day w g))), (mma, .inl (V.2.2.1, 7, .inl (upd (upd m1 i (nI kk)) kk (nI i)))), (mbm, .inl (V.2.2.1, 7, .inl bo1))] := hw_82.symm
                            clear hw_82; subst hw_82x
                            refine g_toe (x' := apartF w i kk) (abs_sym hB (by omega) (by omega)) ?_
                            refine g_iadd X dX11_layPairs_327 ?_
                            refine g_istore X (L' := [some (.ref mm), some (.int be), some (.int (nI code)), some (.int (nI (lM code (j + 1)))), some (.int (nI (t ||| 2 ^ i ||| 2 ^ kk))), some (.int (su + (apartF w i kk))), some (.int 0), some (.int (nI (uM (j + 1)))), some (.int (chM (j + 1))), some (.int (nI j)), some (.int (nI i)), some (.int (nI (qM code j))), some (.int (nI kk)), some (.int (nI r)), some (.int 0)]) dX11_layPairs_328 (by decide) rfl rfl ?_
                            have hst := st_2 ht hil (by omega) (hi_k hik (by omega) hhi hrc ((has_bit t ht8 kk (by omega)).mp c153_67) (by omega)) (by omega)
                            refine g_iinc X (v := nI (j + 1)) (L' := [some (.ref mm), some (.int be), some (.int (nI code)), some (.int (nI (lM code (j + 1)))), some (.int (nI (t ||| 2 ^ i ||| 2 ^ kk))), some (.int (su + (apartF w i kk))), some (.int 0), some (.int (nI (uM (j + 1)))), some (.int (chM (j + 1))), some (.int (nI (j + 1))), some (.int (nI i)), some (.int (nI (qM code j))), some (.int (nI kk)), some (.int (nI r)), some (.int 0)]) dX11_layPairs_330 rfl (nI_addk (by decide)) (by decide) rfl rfl ?_
                            refine g_goto X 33 dX11_layPairs_333 (by decide) ?_
                            refine g_sub (L' := [some (.ref mm), some (.int be), some (.int (nI code)), some (.int (nI (lM code (j + 1)))), some (.int (nI (t ||| 2 ^ i ||| 2 ^ kk))), some (.int (su + (apartF w i kk))), some (.int 0), some (.int (nI (uM (j + 1)))), some (.int (chM (j + 1))), some (.int (nI (j + 1))), none, none, none, none, none]) ⟨rfl, ⟨rfl, ⟨rfl, ⟨rfl, ⟨rfl, ⟨rfl, ⟨rfl, ⟨rfl, ⟨rfl, ⟨rfl, trivial⟩⟩⟩⟩⟩⟩⟩⟩⟩⟩ ?_
                            exact ih33 (j + 1) (by omega) (t ||| 2 ^ i ||| 2 ^ kk) (su + (apartF w i kk)) 0 (upd (upd m1 i (nI kk)) kk (nI i)) (by rw [hst]) (by rw [hst, sumL_a, if_pos (by show kk < n; omega), ← hsu]) (by rw [hst]; simp [so_b0 hso c205_76]) (by rw [hst, matL_a, if_pos (by show kk < n; omega), ← hm1])
                          · refine g_iload X dX11_layPairs_208 rfl ?_
                            refine g_if_eq X 238 dX11_layPairs_210 (by decide) (fun c210_85 => ?_) (fun c210_85 => absurd rfl c210_85)
                            refine g_iconst X (1) dX11_layPairs_238 (by decide) ?_
                            refine g_goto X 243 dX11_layPairs_239 (by decide) ?_
                            refine g_istore X (L' := [some (.ref mm), some (.int be), some (.int (nI code)), some (.int (nI (lM code (j + 1)))), some (.int (nI t)), some (.int su), some (.int 1), some (.int (nI (uM (j + 1)))), some (.int (chM (j + 1))), some (.int (nI j)), some (.int (nI i)), some (.int (nI (qM code j))), some (.int (nI kk)), some (.int (nI r)), some (.int 0)]) dX11_layPairs_243 (by decide) rfl rfl ?_
                            refine g_iload X dX11_layPairs_245 rfl ?_
                            refine g_iconst X (1) dX11_layPairs_247 (by decide) ?_
                            refine g_iload X dX11_layPairs_248 rfl ?_
                            refine g_ishl X dX11_layPairs_250 ?_
                            refine g_ior X dX11_layPairs_251 ?_
                            refine g_toe (x' := nI (t ||| 2 ^ i)) (bitor t ht8 i (by omega)) ?_
                            refine g_iload X dX11_layPairs_252 rfl ?_
                            refine g_if_eq X 263 dX11_layPairs_254 (by decide) (fun c254_86 => ?_) (fun c254_86 => absurd rfl c254_86)
                            refine g_iconst X (1) dX11_layPairs_263 (by decide) ?_
                            refine g_iload X dX11_layPairs_264 rfl ?_
                            refine g_ishl X dX11_layPairs_266 ?_
                            refine g_ior X dX11_layPairs_267 ?_
                            refine g_toe (x' := nI (t ||| 2 ^ i ||| 2 ^ kk)) (bitor _ (bitor_lt ht8 (by omega)) kk (by omega)) ?_
                            refine g_istore X (L' := [some (.ref mm), some (.int be), some (.int (nI code)), some (.int (nI (lM code (j + 1)))), some (.int (nI (t ||| 2 ^ i ||| 2 ^ kk))), some (.int su), some (.int 1), some (.int (nI (uM (j + 1)))), some (.int (chM (j + 1))), some (.int (nI j)), some (.int (nI i)), some (.int (nI (qM code j))), some (.int (nI kk)), some (.int (nI r)), some (.int 0)]) dX11_layPairs_268 (by decide) rfl rfl ?_
                            refine g_aload_n X dX11_layPairs_270 rfl ?_
                            refine g_get X uwX11 0 rfl rfl 28 (by decide) kl_X11_61 rfl rfl gwX11 dX11_layPairs_271 ?_
                            refine g_iload X dX11_layPairs_274 rfl ?_
                            refine g_iload X dX11_layPairs_276 rfl ?_
                            refine g_if_eq X 286 dX11_layPairs_278 (by decide) (fun c278_87 => ?_) (fun c278_87 => absurd rfl c278_87)
                            refine g_iload X dX11_layPairs_286 rfl ?_
                            refine g_iast' X 2 rfl (i := i) rfl (by omega) (by omega) (ws' := [(mm, .inr (11, [.int le_, .ref mtx, .int po_, .ref mnu, .int fa_, .int rcl_, .int rle_, .ref mrc, .ref mrw, .ref mrl, .int (nI n), .ref mki, .ref mwa, .int ls_, .ref mle, .ref mno, .ref mtr, .ref mse, .ref mba, .int ba_, .ref mim, .int km_, .int si_, .ref msi, .ref mfo, .int fm_, .ref mor, .ref mbo, .ref mma, .ref mbm, .ref mso])), (mno, .inl (V.2.2.1, 15, .inl (stF day w g))), (mma, .inl (V.2.2.1, 7, .inl (upd m1 i (nI kk)))), (mbm, .inl (V.2.2.1, 7, .inl bo1))]) rfl dX11_layPairs_288 ?_
                            refine g_iload X dX11_layPairs_289 rfl ?_
                            refine g_if_ne X 330 dX11_layPairs_291 (by decide) (fun c291_88 => absurd rfl c291_88) (fun c291_88 => ?_)
                            refine g_aload_n X dX11_layPairs_294 rfl ?_
                            refine g_get X uwX11 0 rfl rfl 28 (by decide) kl_X11_61 rfl rfl gwX11 dX11_layPairs_295 ?_
                            refine g_iload X dX11_layPairs_298 rfl ?_
                            refine g_iload X dX11_layPairs_300 rfl ?_
                            refine g_iast' X 2 rfl (i := kk) rfl (by omega) (by omega) (ws' := [(mm, .inr (11, [.int le_, .ref mtx, .int po_, .ref mnu, .int fa_, .int rcl_, .int rle_, .ref mrc, .ref mrw, .ref mrl, .int (nI n), .ref mki, .ref mwa, .int ls_, .ref mle, .ref mno, .ref mtr, .ref mse, .ref mba, .int ba_, .ref mim, .int km_, .int si_, .ref msi, .ref mfo, .int fm_, .ref mor, .ref mbo, .ref mma, .ref mbm, .ref mso])), (mno, .inl (V.2.2.1, 15, .inl (stF day w g))), (mma, .inl (V.2.2.1, 7, .inl (upd (upd m1 i (nI kk)) kk (nI i)))), (mbm, .inl (V.2.2.1, 7, .inl bo1))]) rfl dX11_layPairs_302 ?_
                            refine g_iload X dX11_layPairs_303 rfl ?_
                            refine g_aload_n X dX11_layPairs_305 rfl ?_
                            refine g_get X uwX11 0 rfl rfl 15 (by decide) kl_X11_34 rfl rfl gwX11 dX11_layPairs_306 ?_
                            refine g_iconst X (1) dX11_layPairs_309 (by decide) ?_
                            refine g_iload X dX11_layPairs_310 rfl ?_
                            refine g_iadd X dX11_layPairs_312 ?_
                            refine g_toe (x' := nI (1 + kk)) (nI_add' rfl rfl) ?_
                            refine g_iald' X 1 rfl (i := (1 + kk)) rfl (by omega) (by omega) dX11_layPairs_313 ?_
                            refine g_toe (x' := w kk) (stF_w _ _ _ kk (by omega)) ?_
                            refine g_aload_n X dX11_layPairs_314 rfl ?_
                            refine g_get X uwX11 0 rfl rfl 15 (by decide) kl_X11_34 rfl rfl gwX11 dX11_layPairs_315 ?_
                            refine g_iconst X (1) dX11_layPairs_318 (by decide) ?_
                            refine g_iload X dX11_layPairs_319 rfl ?_
                            refine g_iadd X dX11_layPairs_321 ?_
                            refine g_toe (x' := nI (1 + i)) (nI_add' rfl rfl) ?_
                            refine g_iald' X 1 rfl (i := (1 + i)) rfl (by omega) (by omega) dX11_layPairs_322 ?_
                            refine g_toe (x' := w i) (stF_w _ _ _ i (by omega)) ?_
                            refine g_isub X dX11_layPairs_323 ?_
                            refine g_callSi X (c_X11_far V ((w kk) - (w i))) mo_X11_far kl_X11_151 [] [0, 0, 0, 0] rfl (by decide +kernel) rfl rfl (fun _ => Nat.le_of_ble_eq_true rfl) (As := [.int ((w kk) - (w i))]) (st := [.int su]) (cs' := (0, 0)) rfl rfl rfl dX11_layPairs_324 (fun r_93 u_89 hp_90 ws_92 hw_91 => ?_)
                            obtain rfl : r_93 = absF ((w kk) - (w i)) := hp_90
                            have hw_91x : ws_92 = [(mm, .inr (11, [.int le_, .ref mtx, .int po_, .ref mnu, .int fa_, .int rcl_, .int rle_, .ref mrc, .ref mrw, .ref mrl, .int (nI n), .ref mki, .ref mwa, .int ls_, .ref mle, .ref mno, .ref mtr, .ref mse, .ref mba, .int ba_, .ref mim, .int km_, .int si_, .ref msi, .ref mfo, .int fm_, .ref mor, .ref mbo, .ref mma, .ref mbm, .ref mso])), (mno, .inl (V.2.2.1, 15, .inl (stF day w g))), (mma, .inl (V.2.2.1, 7, .inl (upd (upd m1 i (nI kk)) kk (nI i)))), (mbm, .inl (V.2.2.1, 7, .inl bo1))] := hw_91.symm
                            clear hw_91; subst hw_91x
                            refine g_toe (x' := apartF w i kk) (abs_sym hB (by omega) (by omega)) ?_
                            refine g_iadd X dX11_layPairs_327 ?_
                            refine g_istore X (L' := [some (.ref mm), some (.int be), some (.int (nI code)), some (.int (nI (lM code (j + 1)))), some (.int (nI (t ||| 2 ^ i ||| 2 ^ kk))), some (.int (su + (apartF w i kk))), some (.int 1), some (.int (nI (uM (j + 1)))), some (.int (chM (j + 1))), some (.int (nI j)), some (.int (nI i)), some (.int (nI (qM code j))), some (.int (nI kk)), some (.int (nI r)), some (.int 0)]) dX11_layPairs_328 (by decide) rfl rfl ?_
                            have hst := st_2 ht hil (by omega) (hi_k hik (by omega) hhi hrc ((has_bit t ht8 kk (by omega)).mp c153_67) (by omega)) (by omega)
                            refine g_iinc X (v := nI (j + 1)) (L' := [some (.ref mm), some (.int be), some (.int (nI code)), some (.int (nI (lM code (j + 1)))), some (.int (nI (t ||| 2 ^ i ||| 2 ^ kk))), some (.int (su + (apartF w i kk))), some (.int 1), some (.int (nI (uM (j + 1)))), some (.int (chM (j + 1))), some (.int (nI (j + 1))), some (.int (nI i)), some (.int (nI (qM code j))), some (.int (nI kk)), some (.int (nI r)), some (.int 0)]) dX11_layPairs_330 rfl (nI_addk (by decide)) (by decide) rfl rfl ?_
                            refine g_goto X 33 dX11_layPairs_333 (by decide) ?_
                            refine g_sub (L' := [some (.ref mm), some (.int be), some (.int (nI code)), some (.int (nI (lM code (j + 1)))), some (.int (nI (t ||| 2 ^ i ||| 2 ^ kk))), some (.int (su + (apartF w i kk))), some (.int 1), some (.int (nI (uM (j + 1)))), some (.int (chM (j + 1))), some (.int (nI (j + 1))), none, none, none, none, none]) ⟨rfl, ⟨rfl, ⟨rfl, ⟨rfl, ⟨rfl, ⟨rfl, ⟨rfl, ⟨rfl, ⟨rfl, ⟨rfl, trivial⟩⟩⟩⟩⟩⟩⟩⟩⟩⟩ ?_
                            exact ih33 (j + 1) (by omega) (t ||| 2 ^ i ||| 2 ^ kk) (su + (apartF w i kk)) 1 (upd (upd m1 i (nI kk)) kk (nI i)) (by rw [hst]) (by rw [hst, sumL_a, if_pos (by show kk < n; omega), ← hsu]) (by rw [hst]; simp [so_b1 hso c205_76]) (by rw [hst, matL_a, if_pos (by show kk < n; omega), ← hm1])
                        · have c158_74n := inle' (a := r) (b := 0) c158_74 (by omega) (by omega)
                          refine g_iload X dX11_layPairs_161 rfl ?_
                          refine g_iload X dX11_layPairs_163 rfl ?_
                          refine g_iload X dX11_layPairs_165 rfl ?_
                          refine g_callSi X (c_X11_has V (nI t) kk) mo_X11_has kl_X11_158 [] [0, 0, 0, 0] rfl (by decide +kernel) rfl rfl (fun _ => Nat.le_of_ble_eq_true rfl) (As := [.int (nI t), .int (nI kk)]) (st := [.int (nI r)]) (cs' := (0, 0)) rfl rfl rfl dX11_layPairs_167 (fun r_98 u_94 hp_95 ws_97 hw_96 => ?_)
                          obtain rfl : r_98 = hasF (nI t) kk := hp_95
                          have hw_96x : ws_97 = [(mm, .inr (11, [.int le_, .ref mtx, .int po_, .ref mnu, .int fa_, .int rcl_, .int rle_, .ref mrc, .ref mrw, .ref mrl, .int (nI n), .ref mki, .ref mwa, .int ls_, .ref mle, .ref mno, .ref mtr, .ref mse, .ref mba, .int ba_, .ref mim, .int km_, .int si_, .ref msi, .ref mfo, .int fm_, .ref mor, .ref mbo, .ref mma, .ref mbm, .ref mso])), (mno, .inl (V.2.2.1, 15, .inl (stF day w g))), (mma, .inl (V.2.2.1, 7, .inl m1)), (mbm, .inl (V.2.2.1, 7, .inl bo1))] := hw_96.symm
                          clear hw_96; subst hw_96x
                          refine g_if_eq X 177 dX11_layPairs_170 (by decide) (fun c170_99 => ?_) (fun c170_99 => absurd c153_67 c170_99)
                          refine g_iconst X (1) dX11_layPairs_177 (by decide) ?_
                          refine g_isub X dX11_layPairs_178 ?_
                          refine g_toe (x' := nI (r - 1)) (nI_sub' rfl rfl (by omega)) ?_
                          refine g_istore X (L' := [some (.ref mm), some (.int be), some (.int (nI code)), some (.int (nI (lM code (j + 1)))), some (.int (nI t)), some (.int su), some (.int so), some (.int (nI (uM (j + 1)))), some (.int (chM (j + 1))), some (.int (nI j)), some (.int (nI i)), some (.int (nI (qM code j))), some (.int (nI kk)), some (.int (nI (r - 1))), none]) dX11_layPairs_179 (by decide) rfl rfl ?_
                          refine g_iinc X (v := nI (kk + 1)) (L' := [some (.ref mm), some (.int be), some (.int (nI code)), some (.int (nI (lM code (j + 1)))), some (.int (nI t)), some (.int su), some (.int so), some (.int (nI (uM (j + 1)))), some (.int (chM (j + 1))), some (.int (nI j)), some (.int (nI i)), some (.int (nI (qM code j))), some (.int (nI (kk + 1))), some (.int (nI (r - 1))), none]) dX11_layPairs_181 rfl (nI_addk (by decide)) (by decide) rfl rfl ?_
                          refine g_goto X 137 dX11_layPairs_184 (by decide) ?_
                          exact ih137 (kk + 1) (by omega) (r - 1) (by omega) (h_F hik hrc ((has_bit t ht8 kk (by omega)).mp c153_67) (by omega)) (g_F hik hhi hrc ((has_bit t ht8 kk (by omega)).mp c153_67) (by omega))
                  exact loop137_33 (n - (i + 1)) (i + 1) (by omega) (qM code j) (Nat.lt_succ_self _) (by rw [hP_0 t i _ (Nat.le_refl _), Nat.add_zero]) (hiP_0 t i _ _ (Nat.le_refl _))
                · have c86_31d := Int32.not_le.mp c86_31
                  refine g_iload X dX11_layPairs_89 rfl ?_
                  refine g_goto X 95 dX11_layPairs_91 (by decide) ?_
                  refine g_idiv X dX11_layPairs_95 (by first | decide | exact (un_F j (by omega) (by assumption)).2) ?_
                  refine g_toe (x' := nI (uM (j + 1))) (un_F j (by omega) c86_31).1 ?_
                  refine g_istore X (L' := [some (.ref mm), some (.int be), some (.int (nI code)), some (.int (nI (lM code (j + 1)))), some (.int (nI t)), some (.int su), some (.int so), some (.int (nI (uM (j + 1)))), some (.int (chM (j + 1))), some (.int (nI j)), some (.int (nI i)), some (.int (nI (qM code j))), none, none, none]) dX11_layPairs_96 (by decide) rfl rfl ?_
                  refine g_iload X dX11_layPairs_98 rfl ?_
                  refine g_aload_n X dX11_layPairs_100 rfl ?_
                  refine g_get X uwX11 0 rfl rfl 10 (by decide) kl_X11_91 rfl rfl gwX11 dX11_layPairs_101 ?_
                  refine g_icmp_ne X 127 dX11_layPairs_104 (by decide) (fun c104_100 => ?_) (fun c104_100 => absurd c104_100 (tne (a := i) (b := n) (by omega) (by omega) (by omega)))
                  refine g_iload X dX11_layPairs_127 rfl ?_
                  refine g_iconst X (1) dX11_layPairs_129 (by decide) ?_
                  refine g_iadd X dX11_layPairs_130 ?_
                  refine g_toe (x' := nI (i + 1)) (nI_add' rfl rfl) ?_
                  refine g_istore X (L' := [some (.ref mm), some (.int be), some (.int (nI code)), some (.int (nI (lM code (j + 1)))), some (.int (nI t)), some (.int su), some (.int so), some (.int (nI (uM (j + 1)))), some (.int (chM (j + 1))), some (.int (nI j)), some (.int (nI i)), some (.int (nI (qM code j))), some (.int (nI (i + 1))), none, none]) dX11_layPairs_131 (by decide) rfl rfl ?_
                  refine g_iload X dX11_layPairs_133 rfl ?_
                  refine g_istore X (L' := [some (.ref mm), some (.int be), some (.int (nI code)), some (.int (nI (lM code (j + 1)))), some (.int (nI t)), some (.int su), some (.int so), some (.int (nI (uM (j + 1)))), some (.int (chM (j + 1))), some (.int (nI j)), some (.int (nI i)), some (.int (nI (qM code j))), some (.int (nI (i + 1))), some (.int (nI (qM code j))), none]) dX11_layPairs_135 (by decide) rfl rfl ?_
                  have loop137_101 : ∀ (d137 kk : Nat), kk + d137 = n → ∀ (r : Nat) (hik : i < kk) (hrc : r + cnt (hP t i) kk = qM code j) (hhi : fst1 (hiP t i (qM code j)) kk = none), G V Z 15 (0, 0) [(mm, .inr (11, [.int le_, .ref mtx, .int po_, .ref mnu, .int fa_, .int rcl_, .int rle_, .ref mrc, .ref mrw, .ref mrl, .int (nI n), .ref mki, .ref mwa, .int ls_, .ref mle, .ref mno, .ref mtr, .ref mse, .ref mba, .int ba_, .ref mim, .int km_, .int si_, .ref msi, .ref mfo, .int fm_, .ref mor, .ref mbo, .ref mma, .ref mbm, .ref mso])), (mno, .inl (V.2.2.1, 15, .inl (stF day w g))), (mma, .inl (V.2.2.1, 7, .inl m1)), (mbm, .inl (V.2.2.1, 7, .inl bo1))] 137 [some (.ref mm), some (.int be), some (.int (nI code)), some (.int (nI (lM code (j + 1)))), some (.int (nI t)), some (.int su), some (.int so), some (.int (nI (uM (j + 1)))), some (.int (chM (j + 1))), some (.int (nI j)), some (.int (nI i)), some (.int (nI (qM code j))), some (.int (nI kk)), some (.int (nI r)), none] [] := by
                    intro d137
                    induction d137 with
                    | zero =>
                      intro kk hkk r hik hrc hhi
                      refine g_iload X dX11_layPairs_137 rfl ?_
                      refine g_aload_n X dX11_layPairs_139 rfl ?_
                      refine g_get X uwX11 0 rfl rfl 10 (by decide) kl_X11_91 rfl rfl gwX11 dX11_layPairs_140 ?_
                      refine g_icmp_ge X 187 dX11_layPairs_143 (by decide) (fun c143_102 => ?_) (fun c143_102 => absurd (tge (a := kk) (b := n) (by omega) (by omega) (by omega)) c143_102)
                      refine g_iload X dX11_layPairs_187 rfl ?_
                      refine g_aload_n X dX11_layPairs_189 rfl ?_
                      refine g_get X uwX11 0 rfl rfl 10 (by decide) kl_X11_91 rfl rfl gwX11 dX11_layPairs_190 ?_
                      refine g_icmp_lt X 200 dX11_layPairs_193 (by decide) (fun c193_103 => absurd c193_103 (flt (a := kk) (b := n) (by omega) (by omega) (by omega))) (fun c193_103 => ?_)
                      refine g_iconst X (1) dX11_layPairs_196 (by decide) ?_
                      refine g_goto X 201 dX11_layPairs_197 (by decide) ?_
                      refine g_istore X (L' := [some (.ref mm), some (.int be), some (.int (nI code)), some (.int (nI (lM code (j + 1)))), some (.int (nI t)), some (.int su), some (.int so), some (.int (nI (uM (j + 1)))), some (.int (chM (j + 1))), some (.int (nI j)), some (.int (nI i)), some (.int (nI (qM code j))), some (.int (nI kk)), some (.int (nI r)), some (.int 1)]) dX11_layPairs_201 (by decide) rfl rfl ?_
                      refine g_iload X dX11_layPairs_203 rfl ?_
                      refine g_if_eq X 242 dX11_layPairs_205 (by decide) (fun c205_104 => ?_) (fun c205_104 => ?_)
                      · refine g_iconst X (0) dX11_layPairs_242 (by decide) ?_
                        refine g_istore X (L' := [some (.ref mm), some (.int be), some (.int (nI code)), some (.int (nI (lM code (j + 1)))), some (.int (nI t)), some (.int su), some (.int 0), some (.int (nI (uM (j + 1)))), some (.int (chM (j + 1))), some (.int (nI j)), some (.int (nI i)), some (.int (nI (qM code j))), some (.int (nI kk)), some (.int (nI r)), some (.int 1)]) dX11_layPairs_243 (by decide) rfl rfl ?_
                        refine g_iload X dX11_layPairs_245 rfl ?_
                        refine g_iconst X (1) dX11_layPairs_247 (by decide) ?_
                        refine g_iload X dX11_layPairs_248 rfl ?_
                        refine g_ishl X dX11_layPairs_250 ?_
                        refine g_ior X dX11_layPairs_251 ?_
                        refine g_toe (x' := nI (t ||| 2 ^ i)) (bitor t ht8 i (by omega)) ?_
                        refine g_iload X dX11_layPairs_252 rfl ?_
                        refine g_if_eq X 263 dX11_layPairs_254 (by decide) (fun c254_105 => absurd c254_105 (by decide)) (fun c254_105 => ?_)
                        refine g_sipush X (128) dX11_layPairs_257 (by decide) ?_
                        refine g_goto X 267 dX11_layPairs_260 (by decide) ?_
                        refine g_ior X dX11_layPairs_267 ?_
                        refine g_toe (x' := nI (t ||| 2 ^ i ||| 128)) (or128 _ (bitor_lt ht8 (by omega))) ?_
                        refine g_istore X (L' := [some (.ref mm), some (.int be), some (.int (nI code)), some (.int (nI (lM code (j + 1)))), some (.int (nI (t ||| 2 ^ i ||| 128))), some (.int su), some (.int 0), some (.int (nI (uM (j + 1)))), some (.int (chM (j + 1))), some (.int (nI j)), some (.int (nI i)), some (.int (nI (qM code j))), some (.int (nI kk)), some (.int (nI r)), some (.int 1)]) dX11_layPairs_268 (by decide) rfl rfl ?_
                        refine g_aload_n X dX11_layPairs_270 rfl ?_
                        refine g_get X uwX11 0 rfl rfl 28 (by decide) kl_X11_61 rfl rfl gwX11 dX11_layPairs_271 ?_
                        refine g_iload X dX11_layPairs_274 rfl ?_
                        refine g_iload X dX11_layPairs_276 rfl ?_
                        refine g_if_eq X 286 dX11_layPairs_278 (by decide) (fun c278_106 => absurd c278_106 (by decide)) (fun c278_106 => ?_)
                        refine g_bipush X (-4) dX11_layPairs_281 (by decide) ?_
                        refine g_goto X 288 dX11_layPairs_283 (by decide) ?_
                        refine g_iast' X 2 rfl (i := i) rfl (by omega) (by omega) (ws' := [(mm, .inr (11, [.int le_, .ref mtx, .int po_, .ref mnu, .int fa_, .int rcl_, .int rle_, .ref mrc, .ref mrw, .ref mrl, .int (nI n), .ref mki, .ref mwa, .int ls_, .ref mle, .ref mno, .ref mtr, .ref mse, .ref mba, .int ba_, .ref mim, .int km_, .int si_, .ref msi, .ref mfo, .int fm_, .ref mor, .ref mbo, .ref mma, .ref mbm, .ref mso])), (mno, .inl (V.2.2.1, 15, .inl (stF day w g))), (mma, .inl (V.2.2.1, 7, .inl (upd m1 i (-4)))), (mbm, .inl (V.2.2.1, 7, .inl bo1))]) rfl dX11_layPairs_288 ?_
                        refine g_iload X dX11_layPairs_289 rfl ?_
                        refine g_if_ne X 330 dX11_layPairs_291 (by decide) (fun c291_107 => ?_) (fun c291_107 => absurd c291_107 (by decide))
                        have hst := st_3 ht hil (by omega) (show kk = n by omega) (hi_n (by omega) hhi hrc)
                        refine g_iinc X (v := nI (j + 1)) (L' := [some (.ref mm), some (.int be), some (.int (nI code)), some (.int (nI (lM code (j + 1)))), some (.int (nI (t ||| 2 ^ i ||| 128))), some (.int su), some (.int 0), some (.int (nI (uM (j + 1)))), some (.int (chM (j + 1))), some (.int (nI (j + 1))), some (.int (nI i)), some (.int (nI (qM code j))), some (.int (nI kk)), some (.int (nI r)), some (.int 1)]) dX11_layPairs_330 rfl (nI_addk (by decide)) (by decide) rfl rfl ?_
                        refine g_goto X 33 dX11_layPairs_333 (by decide) ?_
                        refine g_sub (L' := [some (.ref mm), some (.int be), some (.int (nI code)), some (.int (nI (lM code (j + 1)))), some (.int (nI (t ||| 2 ^ i ||| 128))), some (.int su), some (.int 0), some (.int (nI (uM (j + 1)))), some (.int (chM (j + 1))), some (.int (nI (j + 1))), none, none, none, none, none]) ⟨rfl, ⟨rfl, ⟨rfl, ⟨rfl, ⟨rfl, ⟨rfl, ⟨rfl, ⟨rfl, ⟨rfl, ⟨rfl, trivial⟩⟩⟩⟩⟩⟩⟩⟩⟩⟩ ?_
                        exact ih33 (j + 1) (by omega) (t ||| 2 ^ i ||| 128) su 0 (upd m1 i (-4)) (by rw [hst]) (by rw [hst, sumL_a, if_neg (by show ¬ n < n; omega), ← hsu]) (by rw [hst]; simp [so_b0 hso c205_104]) (by rw [hst, matL_a, if_neg (by show ¬ n < n; omega), ← hm1])
                      · refine g_iload X dX11_layPairs_208 rfl ?_
                        refine g_if_eq X 238 dX11_layPairs_210 (by decide) (fun c210_108 => absurd c210_108 (by decide)) (fun c210_108 => ?_)
                        refine g_iload X dX11_layPairs_213 rfl ?_
                        refine g_if_ne X 242 dX11_layPairs_215 (by decide) (fun c215_109 => ?_) (fun c215_109 => ?_)
                        · have c215_109n := ine' (a := r) (b := 0) c215_109 (by omega) (by omega)
                          refine g_iconst X (0) dX11_layPairs_242 (by decide) ?_
                          refine g_istore X (L' := [some (.ref mm), some (.int be), some (.int (nI code)), some (.int (nI (lM code (j + 1)))), some (.int (nI t)), some (.int su), some (.int 0), some (.int (nI (uM (j + 1)))), some (.int (chM (j + 1))), some (.int (nI j)), some (.int (nI i)), some (.int (nI (qM code j))), some (.int (nI kk)), some (.int (nI r)), some (.int 1)]) dX11_layPairs_243 (by decide) rfl rfl ?_
                          refine g_iload X dX11_layPairs_245 rfl ?_
                          refine g_iconst X (1) dX11_layPairs_247 (by decide) ?_
                          refine g_iload X dX11_layPairs_248 rfl ?_
                          refine g_ishl X dX11_layPairs_250 ?_
                          refine g_ior X dX11_layPairs_251 ?_
                          refine g_toe (x' := nI (t ||| 2 ^ i)) (bitor t ht8 i (by omega)) ?_
                          refine g_iload X dX11_layPairs_252 rfl ?_
                          refine g_if_eq X 263 dX11_layPairs_254 (by decide) (fun c254_110 => absurd c254_110 (by decide)) (fun c254_110 => ?_)
                          refine g_sipush X (128) dX11_layPairs_257 (by decide) ?_
                          refine g_goto X 267 dX11_layPairs_260 (by decide) ?_
                          refine g_ior X dX11_layPairs_267 ?_
                          refine g_toe (x' := nI (t ||| 2 ^ i ||| 128)) (or128 _ (bitor_lt ht8 (by omega))) ?_
                          refine g_istore X (L' := [some (.ref mm), some (.int be), some (.int (nI code)), some (.int (nI (lM code (j + 1)))), some (.int (nI (t ||| 2 ^ i ||| 128))), some (.int su), some (.int 0), some (.int (nI (uM (j + 1)))), some (.int (chM (j + 1))), some (.int (nI j)), some (.int (nI i)), some (.int (nI (qM code j))), some (.int (nI kk)), some (.int (nI r)), some (.int 1)]) dX11_layPairs_268 (by decide) rfl rfl ?_
                          refine g_aload_n X dX11_layPairs_270 rfl ?_
                          refine g_get X uwX11 0 rfl rfl 28 (by decide) kl_X11_61 rfl rfl gwX11 dX11_layPairs_271 ?_
                          refine g_iload X dX11_layPairs_274 rfl ?_
                          refine g_iload X dX11_layPairs_276 rfl ?_
                          refine g_if_eq X 286 dX11_layPairs_278 (by decide) (fun c278_111 => absurd c278_111 (by decide)) (fun c278_111 => ?_)
                          refine g_bipush X (-4) dX11_layPairs_281 (by decide) ?_
                          refine g_goto X 288 dX11_layPairs_283 (by decide) ?_
                          refine g_iast' X 2 rfl (i := i) rfl (by omega) (by omega) (ws' := [(mm, .inr (11, [.int le_, .ref mtx, .int po_, .ref mnu, .int fa_, .int rcl_, .int rle_, .ref mrc, .ref mrw, .ref mrl, .int (nI n), .ref mki, .ref mwa, .int ls_, .ref mle, .ref mno, .ref mtr, .ref mse, .ref mba, .int ba_, .ref mim, .int km_, .int si_, .ref msi, .ref mfo, .int fm_, .ref mor, .ref mbo, .ref mma, .ref mbm, .ref mso])), (mno, .inl (V.2.2.1, 15, .inl (stF day w g))), (mma, .inl (V.2.2.1, 7, .inl (upd m1 i (-4)))), (mbm, .inl (V.2.2.1, 7, .inl bo1))]) rfl dX11_layPairs_288 ?_
                          refine g_iload X dX11_layPairs_289 rfl ?_
                          refine g_if_ne X 330 dX11_layPairs_291 (by decide) (fun c291_112 => ?_) (fun c291_112 => absurd c291_112 (by decide))
                          have hst := st_3 ht hil (by omega) (show kk = n by omega) (hi_n (by omega) hhi hrc)
                          refine g_iinc X (v := nI (j + 1)) (L' := [some (.ref mm), some (.int be), some (.int (nI code)), some (.int (nI (lM code (j + 1)))), some (.int (nI (t ||| 2 ^ i ||| 128))), some (.int su), some (.int 0), some (.int (nI (uM (j + 1)))), some (.int (chM (j + 1))), some (.int (nI (j + 1))), some (.int (nI i)), some (.int (nI (qM code j))), some (.int (nI kk)), some (.int (nI r)), some (.int 1)]) dX11_layPairs_330 rfl (nI_addk (by decide)) (by decide) rfl rfl ?_
                          refine g_goto X 33 dX11_layPairs_333 (by decide) ?_
                          refine g_sub (L' := [some (.ref mm), some (.int be), some (.int (nI code)), some (.int (nI (lM code (j + 1)))), some (.int (nI (t ||| 2 ^ i ||| 128))), some (.int su), some (.int 0), some (.int (nI (uM (j + 1)))), some (.int (chM (j + 1))), some (.int (nI (j + 1))), none, none, none, none, none]) ⟨rfl, ⟨rfl, ⟨rfl, ⟨rfl, ⟨rfl, ⟨rfl, ⟨rfl, ⟨rfl, ⟨rfl, ⟨rfl, trivial⟩⟩⟩⟩⟩⟩⟩⟩⟩⟩ ?_
                          exact ih33 (j + 1) (by omega) (t ||| 2 ^ i ||| 128) su 0 (upd m1 i (-4)) (by rw [hst]) (by rw [hst, sumL_a, if_neg (by show ¬ n < n; omega), ← hsu]) (by rw [hst]; simp [so_b1 hso c205_104, c215_109n]) (by rw [hst, matL_a, if_neg (by show ¬ n < n; omega), ← hm1])
                        · have c215_109n := ieq' (a := r) (b := 0) c215_109 (by omega) (by omega)
                          refine g_aload_n X dX11_layPairs_218 rfl ?_
                          refine g_get X uwX11 0 rfl rfl 10 (by decide) kl_X11_91 rfl rfl gwX11 dX11_layPairs_219 ?_
                          refine g_iconst X (2) dX11_layPairs_222 (by decide) ?_
                          refine g_rem X dX11_layPairs_223 (by decide) ?_
                          refine g_toe (x' := nI (n % 2)) (nI_mod' rfl rfl (by omega) (by omega) (by omega)) ?_
                          refine g_iconst X (1) dX11_layPairs_224 (by decide) ?_
                          refine g_icmp_ne X 242 dX11_layPairs_225 (by decide) (fun c225_113 => ?_) (fun c225_113 => ?_)
                          · have c225_113n := ine' (a := n % 2) (b := 1) c225_113 (by omega) (by omega)
                            refine g_iconst X (0) dX11_layPairs_242 (by decide) ?_
                            refine g_istore X (L' := [some (.ref mm), some (.int be), some (.int (nI code)), some (.int (nI (lM code (j + 1)))), some (.int (nI t)), some (.int su), some (.int 0), some (.int (nI (uM (j + 1)))), some (.int (chM (j + 1))), some (.int (nI j)), some (.int (nI i)), some (.int (nI (qM code j))), some (.int (nI kk)), some (.int (nI r)), some (.int 1)]) dX11_layPairs_243 (by decide) rfl rfl ?_
                            refine g_iload X dX11_layPairs_245 rfl ?_
                            refine g_iconst X (1) dX11_layPairs_247 (by decide) ?_
                            refine g_iload X dX11_layPairs_248 rfl ?_
                            refine g_ishl X dX11_layPairs_250 ?_
                            refine g_ior X dX11_layPairs_251 ?_
                            refine g_toe (x' := nI (t ||| 2 ^ i)) (bitor t ht8 i (by omega)) ?_
                            refine g_iload X dX11_layPairs_252 rfl ?_
                            refine g_if_eq X 263 dX11_layPairs_254 (by decide) (fun c254_114 => absurd c254_114 (by decide)) (fun c254_114 => ?_)
                            refine g_sipush X (128) dX11_layPairs_257 (by decide) ?_
                            refine g_goto X 267 dX11_layPairs_260 (by decide) ?_
                            refine g_ior X dX11_layPairs_267 ?_
                            refine g_toe (x' := nI (t ||| 2 ^ i ||| 128)) (or128 _ (bitor_lt ht8 (by omega))) ?_
                            refine g_istore X (L' := [some (.ref mm), some (.int be), some (.int (nI code)), some (.int (nI (lM code (j + 1)))), some (.int (nI (t ||| 2 ^ i ||| 128))), some (.int su), some (.int 0), some (.int (nI (uM (j + 1)))), some (.int (chM (j + 1))), some (.int (nI j)), some (.int (nI i)), some (.int (nI (qM code j))), some (.int (nI kk)), some (.int (nI r)), some (.int 1)]) dX11_layPairs_268 (by decide) rfl rfl ?_
                            refine g_aload_n X dX11_layPairs_270 rfl ?_
                            refine g_get X uwX11 0 rfl rfl 28 (by decide) kl_X11_61 rfl rfl gwX11 dX11_layPairs_271 ?_
                            refine g_iload X dX11_layPairs_274 rfl ?_
                            refine g_iload X dX11_layPairs_276 rfl ?_
                            refine g_if_eq X 286 dX11_layPairs_278 (by decide) (fun c278_115 => absurd c278_115 (by decide)) (fun c278_115 => ?_)
                            refine g_bipush X (-4) dX11_layPairs_281 (by decide) ?_
                            refine g_goto X 288 dX11_layPairs_283 (by decide) ?_
                            refine g_iast' X 2 rfl (i := i) rfl (by omega) (by omega) (ws' := [(mm, .inr (11, [.int le_, .ref mtx, .int po_, .ref mnu, .int fa_, .int rcl_, .int rle_, .ref mrc, .ref mrw, .ref mrl, .int (nI n), .ref mki, .ref mwa, .int ls_, .ref mle, .ref mno, .ref mtr, .ref mse, .ref mba, .int ba_, .ref mim, .int km_, .int si_, .ref msi, .ref mfo, .int fm_, .ref mor, .ref mbo, .ref mma, .ref mbm, .ref mso])), (mno, .inl (V.2.2.1, 15, .inl (stF day w g))), (mma, .inl (V.2.2.1, 7, .inl (upd m1 i (-4)))), (mbm, .inl (V.2.2.1, 7, .inl bo1))]) rfl dX11_layPairs_288 ?_
                            refine g_iload X dX11_layPairs_289 rfl ?_
                            refine g_if_ne X 330 dX11_layPairs_291 (by decide) (fun c291_116 => ?_) (fun c291_116 => absurd c291_116 (by decide))
                            have hst := st_3 ht hil (by omega) (show kk = n by omega) (hi_n (by omega) hhi hrc)
                            refine g_iinc X (v := nI (j + 1)) (L' := [some (.ref mm), some (.int be), some (.int (nI code)), some (.int (nI (lM code (j + 1)))), some (.int (nI (t ||| 2 ^ i ||| 128))), some (.int su), some (.int 0), some (.int (nI (uM (j + 1)))), some (.int (chM (j + 1))), some (.int (nI (j + 1))), some (.int (nI i)), some (.int (nI (qM code j))), some (.int (nI kk)), some (.int (nI r)), some (.int 1)]) dX11_layPairs_330 rfl (nI_addk (by decide)) (by decide) rfl rfl ?_
                            refine g_goto X 33 dX11_layPairs_333 (by decide) ?_
                            refine g_sub (L' := [some (.ref mm), some (.int be), some (.int (nI code)), some (.int (nI (lM code (j + 1)))), some (.int (nI (t ||| 2 ^ i ||| 128))), some (.int su), some (.int 0), some (.int (nI (uM (j + 1)))), some (.int (chM (j + 1))), some (.int (nI (j + 1))), none, none, none, none, none]) ⟨rfl, ⟨rfl, ⟨rfl, ⟨rfl, ⟨rfl, ⟨rfl, ⟨rfl, ⟨rfl, ⟨rfl, ⟨rfl, trivial⟩⟩⟩⟩⟩⟩⟩⟩⟩⟩ ?_
                            exact ih33 (j + 1) (by omega) (t ||| 2 ^ i ||| 128) su 0 (upd m1 i (-4)) (by rw [hst]) (by rw [hst, sumL_a, if_neg (by show ¬ n < n; omega), ← hsu]) (by rw [hst]; simp [so_b1 hso c205_104, c215_109n, c225_113n]) (by rw [hst, matL_a, if_neg (by show ¬ n < n; omega), ← hm1])
                          · have c225_113n := ieq' (a := n % 2) (b := 1) c225_113 (by omega) (by omega)
                            refine g_iload X dX11_layPairs_228 rfl ?_
                            refine g_bipush X (7) dX11_layPairs_230 (by decide) ?_
                            refine g_callSi X (c_X11_has V (nI t) 7) mo_X11_has kl_X11_158 [] [0, 0, 0, 0] rfl (by decide +kernel) rfl rfl (fun _ => Nat.le_of_ble_eq_true rfl) (As := [.int (nI t), .int 7]) (st := []) (cs' := (0, 0)) rfl rfl rfl dX11_layPairs_232 (fun r_121 u_117 hp_118 ws_120 hw_119 => ?_)
                            obtain rfl : r_121 = hasF (nI t) 7 := hp_118
                            have hw_119x : ws_120 = [(mm, .inr (11, [.int le_, .ref mtx, .int po_, .ref mnu, .int fa_, .int rcl_, .int rle_, .ref mrc, .ref mrw, .ref mrl, .int (nI n), .ref mki, .ref mwa, .int ls_, .ref mle, .ref mno, .ref mtr, .ref mse, .ref mba, .int ba_, .ref mim, .int km_, .int si_, .ref msi, .ref mfo, .int fm_, .ref mor, .ref mbo, .ref mma, .ref mbm, .ref mso])), (mno, .inl (V.2.2.1, 15, .inl (stF day w g))), (mma, .inl (V.2.2.1, 7, .inl m1)), (mbm, .inl (V.2.2.1, 7, .inl bo1))] := hw_119.symm
                            clear hw_119; subst hw_119x
                            refine g_if_ne X 242 dX11_layPairs_235 (by decide) (fun c235_122 => ?_) (fun c235_122 => ?_)
                            · have hb7 : t.testBit 7 = true := (by have z := c235_122; cases hb : t.testBit 7 with | true => rfl | false => exact absurd ((has_bit t ht8 7 (by omega)).mpr hb) z)
                              refine g_iconst X (0) dX11_layPairs_242 (by decide) ?_
                              refine g_istore X (L' := [some (.ref mm), some (.int be), some (.int (nI code)), some (.int (nI (lM code (j + 1)))), some (.int (nI t)), some (.int su), some (.int 0), some (.int (nI (uM (j + 1)))), some (.int (chM (j + 1))), some (.int (nI j)), some (.int (nI i)), some (.int (nI (qM code j))), some (.int (nI kk)), some (.int (nI r)), some (.int 1)]) dX11_layPairs_243 (by decide) rfl rfl ?_
                              refine g_iload X dX11_layPairs_245 rfl ?_
                              refine g_iconst X (1) dX11_layPairs_247 (by decide) ?_
                              refine g_iload X dX11_layPairs_248 rfl ?_
                              refine g_ishl X dX11_layPairs_250 ?_
                              refine g_ior X dX11_layPairs_251 ?_
                              refine g_toe (x' := nI (t ||| 2 ^ i)) (bitor t ht8 i (by omega)) ?_
                              refine g_iload X dX11_layPairs_252 rfl ?_
                              refine g_if_eq X 263 dX11_layPairs_254 (by decide) (fun c254_123 => absurd c254_123 (by decide)) (fun c254_123 => ?_)
                              refine g_sipush X (128) dX11_layPairs_257 (by decide) ?_
                              refine g_goto X 267 dX11_layPairs_260 (by decide) ?_
                              refine g_ior X dX11_layPairs_267 ?_
                              refine g_toe (x' := nI (t ||| 2 ^ i ||| 128)) (or128 _ (bitor_lt ht8 (by omega))) ?_
                              refine g_istore X (L' := [some (.ref mm), some (.int be), some (.int (nI code)), some (.int (nI (lM code (j + 1)))), some (.int (nI (t ||| 2 ^ i ||| 128))), some (.int su), some (.int 0), some (.int (nI (uM (j + 1)))), some (.int (chM (j + 1))), some (.int (nI j)), some (.int (nI i)), some (.int (nI (qM code j))), some (.int (nI kk)), some (.int (nI r)), some (.int 1)]) dX11_layPairs_268 (by decide) rfl rfl ?_
                              refine g_aload_n X dX11_layPairs_270 rfl ?_
                              refine g_get X uwX11 0 rfl rfl 28 (by decide) kl_X11_61 rfl rfl gwX11 dX11_layPairs_271 ?_
                              refine g_iload X dX11_layPairs_274 rfl ?_
                              refine g_iload X dX11_layPairs_276 rfl ?_
                              refine g_if_eq X 286 dX11_layPairs_278 (by decide) (fun c278_124 => absurd c278_124 (by decide)) (fun c278_124 => ?_)
                              refine g_bipush X (-4) dX11_layPairs_281 (by decide) ?_
                              refine g_goto X 288 dX11_layPairs_283 (by decide) ?_
                              refine g_iast' X 2 rfl (i := i) rfl (by omega) (by omega) (ws' := [(mm, .inr (11, [.int le_, .ref mtx, .int po_, .ref mnu, .int fa_, .int rcl_, .int rle_, .ref mrc, .ref mrw, .ref mrl, .int (nI n), .ref mki, .ref mwa, .int ls_, .ref mle, .ref mno, .ref mtr, .ref mse, .ref mba, .int ba_, .ref mim, .int km_, .int si_, .ref msi, .ref mfo, .int fm_, .ref mor, .ref mbo, .ref mma, .ref mbm, .ref mso])), (mno, .inl (V.2.2.1, 15, .inl (stF day w g))), (mma, .inl (V.2.2.1, 7, .inl (upd m1 i (-4)))), (mbm, .inl (V.2.2.1, 7, .inl bo1))]) rfl dX11_layPairs_288 ?_
                              refine g_iload X dX11_layPairs_289 rfl ?_
                              refine g_if_ne X 330 dX11_layPairs_291 (by decide) (fun c291_125 => ?_) (fun c291_125 => absurd c291_125 (by decide))
                              have hst := st_3 ht hil (by omega) (show kk = n by omega) (hi_n (by omega) hhi hrc)
                              refine g_iinc X (v := nI (j + 1)) (L' := [some (.ref mm), some (.int be), some (.int (nI code)), some (.int (nI (lM code (j + 1)))), some (.int (nI (t ||| 2 ^ i ||| 128))), some (.int su), some (.int 0), some (.int (nI (uM (j + 1)))), some (.int (chM (j + 1))), some (.int (nI (j + 1))), some (.int (nI i)), some (.int (nI (qM code j))), some (.int (nI kk)), some (.int (nI r)), some (.int 1)]) dX11_layPairs_330 rfl (nI_addk (by decide)) (by decide) rfl rfl ?_
                              refine g_goto X 33 dX11_layPairs_333 (by decide) ?_
                              refine g_sub (L' := [some (.ref mm), some (.int be), some (.int (nI code)), some (.int (nI (lM code (j + 1)))), some (.int (nI (t ||| 2 ^ i ||| 128))), some (.int su), some (.int 0), some (.int (nI (uM (j + 1)))), some (.int (chM (j + 1))), some (.int (nI (j + 1))), none, none, none, none, none]) ⟨rfl, ⟨rfl, ⟨rfl, ⟨rfl, ⟨rfl, ⟨rfl, ⟨rfl, ⟨rfl, ⟨rfl, ⟨rfl, trivial⟩⟩⟩⟩⟩⟩⟩⟩⟩⟩ ?_
                              exact ih33 (j + 1) (by omega) (t ||| 2 ^ i ||| 128) su 0 (upd m1 i (-4)) (by rw [hst]) (by rw [hst, sumL_a, if_neg (by show ¬ n < n; omega), ← hsu]) (by rw [hst]; simp [so_b1 hso c205_104, c215_109n, c225_113n, hb7]) (by rw [hst, matL_a, if_neg (by show ¬ n < n; omega), ← hm1])
                            · have hb7 : t.testBit 7 = false := ((has_bit t ht8 7 (by omega)).mp c235_122)
                              refine g_iconst X (1) dX11_layPairs_238 (by decide) ?_
                              refine g_goto X 243 dX11_layPairs_239 (by decide) ?_
                              refine g_istore X (L' := [some (.ref mm), some (.int be), some (.int (nI code)), some (.int (nI (lM code (j + 1)))), some (.int (nI t)), some (.int su), some (.int 1), some (.int (nI (uM (j + 1)))), some (.int (chM (j + 1))), some (.int (nI j)), some (.int (nI i)), some (.int (nI (qM code j))), some (.int (nI kk)), some (.int (nI r)), some (.int 1)]) dX11_layPairs_243 (by decide) rfl rfl ?_
                              refine g_iload X dX11_layPairs_245 rfl ?_
                              refine g_iconst X (1) dX11_layPairs_247 (by decide) ?_
                              refine g_iload X dX11_layPairs_248 rfl ?_
                              refine g_ishl X dX11_layPairs_250 ?_
                              refine g_ior X dX11_layPairs_251 ?_
                              refine g_toe (x' := nI (t ||| 2 ^ i)) (bitor t ht8 i (by omega)) ?_
                              refine g_iload X dX11_layPairs_252 rfl ?_
                              refine g_if_eq X 263 dX11_layPairs_254 (by decide) (fun c254_126 => absurd c254_126 (by decide)) (fun c254_126 => ?_)
                              refine g_sipush X (128) dX11_layPairs_257 (by decide) ?_
                              refine g_goto X 267 dX11_layPairs_260 (by decide) ?_
                              refine g_ior X dX11_layPairs_267 ?_
                              refine g_toe (x' := nI (t ||| 2 ^ i ||| 128)) (or128 _ (bitor_lt ht8 (by omega))) ?_
                              refine g_istore X (L' := [some (.ref mm), some (.int be), some (.int (nI code)), some (.int (nI (lM code (j + 1)))), some (.int (nI (t ||| 2 ^ i ||| 128))), some (.int su), some (.int 1), some (.int (nI (uM (j + 1)))), some (.int (chM (j + 1))), some (.int (nI j)), some (.int (nI i)), some (.int (nI (qM code j))), some (.int (nI kk)), some (.int (nI r)), some (.int 1)]) dX11_layPairs_268 (by decide) rfl rfl ?_
                              refine g_aload_n X dX11_layPairs_270 rfl ?_
                              refine g_get X uwX11 0 rfl rfl 28 (by decide) kl_X11_61 rfl rfl gwX11 dX11_layPairs_271 ?_
                              refine g_iload X dX11_layPairs_274 rfl ?_
                              refine g_iload X dX11_layPairs_276 rfl ?_
                              refine g_if_eq X 286 dX11_layPairs_278 (by decide) (fun c278_127 => absurd c278_127 (by decide)) (fun c278_127 => ?_)
                              refine g_bipush X (-4) dX11_layPairs_281 (by decide) ?_
                              refine g_goto X 288 dX11_layPairs_283 (by decide) ?_
                              refine g_iast' X 2 rfl (i := i) rfl (by omega) (by omega) (ws' := [(mm, .inr (11, [.int le_, .ref mtx, .int po_, .ref mnu, .int fa_, .int rcl_, .int rle_, .ref mrc, .ref mrw, .ref mrl, .int (nI n), .ref mki, .ref mwa, .int ls_, .ref mle, .ref mno, .ref mtr, .ref mse, .ref mba, .int ba_, .ref mim, .int km_, .int si_, .ref msi, .ref mfo, .int fm_, .ref mor, .ref mbo, .ref mma, .ref mbm, .ref mso])), (mno, .inl (V.2.2.1, 15, .inl (stF day w g))), (mma, .inl (V.2.2.1, 7, .inl (upd m1 i (-4)))), (mbm, .inl (V.2.2.1, 7, .inl bo1))]) rfl dX11_layPairs_288 ?_
                              refine g_iload X dX11_layPairs_289 rfl ?_
                              refine g_if_ne X 330 dX11_layPairs_291 (by decide) (fun c291_128 => ?_) (fun c291_128 => absurd c291_128 (by decide))
                              have hst := st_3 ht hil (by omega) (show kk = n by omega) (hi_n (by omega) hhi hrc)
                              refine g_iinc X (v := nI (j + 1)) (L' := [some (.ref mm), some (.int be), some (.int (nI code)), some (.int (nI (lM code (j + 1)))), some (.int (nI (t ||| 2 ^ i ||| 128))), some (.int su), some (.int 1), some (.int (nI (uM (j + 1)))), some (.int (chM (j + 1))), some (.int (nI (j + 1))), some (.int (nI i)), some (.int (nI (qM code j))), some (.int (nI kk)), some (.int (nI r)), some (.int 1)]) dX11_layPairs_330 rfl (nI_addk (by decide)) (by decide) rfl rfl ?_
                              refine g_goto X 33 dX11_layPairs_333 (by decide) ?_
                              refine g_sub (L' := [some (.ref mm), some (.int be), some (.int (nI code)), some (.int (nI (lM code (j + 1)))), some (.int (nI (t ||| 2 ^ i ||| 128))), some (.int su), some (.int 1), some (.int (nI (uM (j + 1)))), some (.int (chM (j + 1))), some (.int (nI (j + 1))), none, none, none, none, none]) ⟨rfl, ⟨rfl, ⟨rfl, ⟨rfl, ⟨rfl, ⟨rfl, ⟨rfl, ⟨rfl, ⟨rfl, ⟨rfl, trivial⟩⟩⟩⟩⟩⟩⟩⟩⟩⟩ ?_
                              exact ih33 (j + 1) (by omega) (t ||| 2 ^ i ||| 128) su 1 (upd m1 i (-4)) (by rw [hst]) (by rw [hst, sumL_a, if_neg (by show ¬ n < n; omega), ← hsu]) (by rw [hst]; simp [so_b1 hso c205_104, c215_109n, c225_113n, hb7]) (by rw [hst, matL_a, if_neg (by show ¬ n < n; omega), ← hm1])
                    | succ d137 ih137 =>
                      intro kk hkk r hik hrc hhi
                      refine g_iload X dX11_layPairs_137 rfl ?_
                      refine g_aload_n X dX11_layPairs_139 rfl ?_
                      refine g_get X uwX11 0 rfl rfl 10 (by decide) kl_X11_91 rfl rfl gwX11 dX11_layPairs_140 ?_
                      refine g_icmp_ge X 187 dX11_layPairs_143 (by decide) (fun c143_129 => absurd c143_129 (fge (a := kk) (b := n) (by omega) (by omega) (by omega))) (fun c143_129 => ?_)
                      refine g_iload X dX11_layPairs_146 rfl ?_
                      refine g_iload X dX11_layPairs_148 rfl ?_
                      refine g_callSi X (c_X11_has V (nI t) kk) mo_X11_has kl_X11_158 [] [0, 0, 0, 0] rfl (by decide +kernel) rfl rfl (fun _ => Nat.le_of_ble_eq_true rfl) (As := [.int (nI t), .int (nI kk)]) (st := []) (cs' := (0, 0)) rfl rfl rfl dX11_layPairs_150 (fun r_134 u_130 hp_131 ws_133 hw_132 => ?_)
                      obtain rfl : r_134 = hasF (nI t) kk := hp_131
                      have hw_132x : ws_133 = [(mm, .inr (11, [.int le_, .ref mtx, .int po_, .ref mnu, .int fa_, .int rcl_, .int rle_, .ref mrc, .ref mrw, .ref mrl, .int (nI n), .ref mki, .ref mwa, .int ls_, .ref mle, .ref mno, .ref mtr, .ref mse, .ref mba, .int ba_, .ref mim, .int km_, .int si_, .ref msi, .ref mfo, .int fm_, .ref mor, .ref mbo, .ref mma, .ref mbm, .ref mso])), (mno, .inl (V.2.2.1, 15, .inl (stF day w g))), (mma, .inl (V.2.2.1, 7, .inl m1)), (mbm, .inl (V.2.2.1, 7, .inl bo1))] := hw_132.symm
                      clear hw_132; subst hw_132x
                      refine g_if_ne X 161 dX11_layPairs_153 (by decide) (fun c153_135 => ?_) (fun c153_135 => ?_)
                      · refine g_iload X dX11_layPairs_161 rfl ?_
                        refine g_iload X dX11_layPairs_163 rfl ?_
                        refine g_iload X dX11_layPairs_165 rfl ?_
                        refine g_callSi X (c_X11_has V (nI t) kk) mo_X11_has kl_X11_158 [] [0, 0, 0, 0] rfl (by decide +kernel) rfl rfl (fun _ => Nat.le_of_ble_eq_true rfl) (As := [.int (nI t), .int (nI kk)]) (st := [.int (nI r)]) (cs' := (0, 0)) rfl rfl rfl dX11_layPairs_167 (fun r_140 u_136 hp_137 ws_139 hw_138 => ?_)
                        obtain rfl : r_140 = hasF (nI t) kk := hp_137
                        have hw_138x : ws_139 = [(mm, .inr (11, [.int le_, .ref mtx, .int po_, .ref mnu, .int fa_, .int rcl_, .int rle_, .ref mrc, .ref mrw, .ref mrl, .int (nI n), .ref mki, .ref mwa, .int ls_, .ref mle, .ref mno, .ref mtr, .ref mse, .ref mba, .int ba_, .ref mim, .int km_, .int si_, .ref msi, .ref mfo, .int fm_, .ref mor, .ref mbo, .ref mma, .ref mbm, .ref mso])), (mno, .inl (V.2.2.1, 15, .inl (stF day w g))), (mma, .inl (V.2.2.1, 7, .inl m1)), (mbm, .inl (V.2.2.1, 7, .inl bo1))] := hw_138.symm
                        clear hw_138; subst hw_138x
                        refine g_if_eq X 177 dX11_layPairs_170 (by decide) (fun c170_141 => absurd c170_141 c153_135) (fun c170_141 => ?_)
                        refine g_iconst X (0) dX11_layPairs_173 (by decide) ?_
                        refine g_goto X 178 dX11_layPairs_174 (by decide) ?_
                        refine g_isub X dX11_layPairs_178 ?_
                        refine g_toe (x' := nI (r - 0)) (nI_sub' rfl rfl (by omega)) ?_
                        refine g_istore X (L' := [some (.ref mm), some (.int be), some (.int (nI code)), some (.int (nI (lM code (j + 1)))), some (.int (nI t)), some (.int su), some (.int so), some (.int (nI (uM (j + 1)))), some (.int (chM (j + 1))), some (.int (nI j)), some (.int (nI i)), some (.int (nI (qM code j))), some (.int (nI kk)), some (.int (nI (r - 0))), none]) dX11_layPairs_179 (by decide) rfl rfl ?_
                        refine g_iinc X (v := nI (kk + 1)) (L' := [some (.ref mm), some (.int be), some (.int (nI code)), some (.int (nI (lM code (j + 1)))), some (.int (nI t)), some (.int su), some (.int so), some (.int (nI (uM (j + 1)))), some (.int (chM (j + 1))), some (.int (nI j)), some (.int (nI i)), some (.int (nI (qM code j))), some (.int (nI (kk + 1))), some (.int (nI (r - 0))), none]) dX11_layPairs_181 rfl (nI_addk (by decide)) (by decide) rfl rfl ?_
                        refine g_goto X 137 dX11_layPairs_184 (by decide) ?_
                        exact ih137 (kk + 1) (by omega) (r - 0) (by omega) (h_T hrc (by have z := c153_135; cases hb : t.testBit kk with | true => rfl | false => exact absurd ((has_bit t ht8 kk (by omega)).mpr hb) z)) (g_T hhi (by have z := c153_135; cases hb : t.testBit kk with | true => rfl | false => exact absurd ((has_bit t ht8 kk (by omega)).mpr hb) z))
                      · refine g_iload X dX11_layPairs_156 rfl ?_
                        refine g_if_le X 187 dX11_layPairs_158 (by decide) (fun c158_142 => ?_) (fun c158_142 => ?_)
                        · have c158_142n := ile' (a := r) (b := 0) c158_142 (by omega) (by omega)
                          refine g_iload X dX11_layPairs_187 rfl ?_
                          refine g_aload_n X dX11_layPairs_189 rfl ?_
                          refine g_get X uwX11 0 rfl rfl 10 (by decide) kl_X11_91 rfl rfl gwX11 dX11_layPairs_190 ?_
                          refine g_icmp_lt X 200 dX11_layPairs_193 (by decide) (fun c193_143 => ?_) (fun c193_143 => absurd (tlt (a := kk) (b := n) (by omega) (by omega) (by omega)) c193_143)
                          refine g_iconst X (0) dX11_layPairs_200 (by decide) ?_
                          refine g_istore X (L' := [some (.ref mm), some (.int be), some (.int (nI code)), some (.int (nI (lM code (j + 1)))), some (.int (nI t)), some (.int su), some (.int so), some (.int (nI (uM (j + 1)))), some (.int (chM (j + 1))), some (.int (nI j)), some (.int (nI i)), some (.int (nI (qM code j))), some (.int (nI kk)), some (.int (nI r)), some (.int 0)]) dX11_layPairs_201 (by decide) rfl rfl ?_
                          refine g_iload X dX11_layPairs_203 rfl ?_
                          refine g_if_eq X 242 dX11_layPairs_205 (by decide) (fun c205_144 => ?_) (fun c205_144 => ?_)
                          · refine g_iconst X (0) dX11_layPairs_242 (by decide) ?_
                            refine g_istore X (L' := [some (.ref mm), some (.int be), some (.int (nI code)), some (.int (nI (lM code (j + 1)))), some (.int (nI t)), some (.int su), some (.int 0), some (.int (nI (uM (j + 1)))), some (.int (chM (j + 1))), some (.int (nI j)), some (.int (nI i)), some (.int (nI (qM code j))), some (.int (nI kk)), some (.int (nI r)), some (.int 0)]) dX11_layPairs_243 (by decide) rfl rfl ?_
                            refine g_iload X dX11_layPairs_245 rfl ?_
                            refine g_iconst X (1) dX11_layPairs_247 (by decide) ?_
                            refine g_iload X dX11_layPairs_248 rfl ?_
                            refine g_ishl X dX11_layPairs_250 ?_
                            refine g_ior X dX11_layPairs_251 ?_
                            refine g_toe (x' := nI (t ||| 2 ^ i)) (bitor t ht8 i (by omega)) ?_
                            refine g_iload X dX11_layPairs_252 rfl ?_
                            refine g_if_eq X 263 dX11_layPairs_254 (by decide) (fun c254_145 => ?_) (fun c254_145 => absurd rfl c254_145)
                            refine g_iconst X (1) dX11_layPairs_263 (by decide) ?_
                            refine g_iload X dX11_layPairs_264 rfl ?_
                            refine g_ishl X dX11_layPairs_266 ?_
                            refine g_ior X dX11_layPairs_267 ?_
                            refine g_toe (x' := nI (t ||| 2 ^ i ||| 2 ^ kk)) (bitor _ (bitor_lt ht8 (by omega)) kk (by omega)) ?_
                            refine g_istore X (L' := [some (.ref mm), some (.int be), some (.int (nI code)), some (.int (nI (lM code (j + 1)))), some (.int (nI (t ||| 2 ^ i ||| 2 ^ kk))), some (.int su), some (.int 0), some (.int (nI (uM (j + 1)))), some (.int (chM (j + 1))), some (.int (nI j)), some (.int (nI i)), some (.int (nI (qM code j))), some (.int (nI kk)), some (.int (nI r)), some (.int 0)]) dX11_layPairs_268 (by decide) rfl rfl ?_
                            refine g_aload_n X dX11_layPairs_270 rfl ?_
                            refine g_get X uwX11 0 rfl rfl 28 (by decide) kl_X11_61 rfl rfl gwX11 dX11_layPairs_271 ?_
                            refine g_iload X dX11_layPairs_274 rfl ?_
                            refine g_iload X dX11_layPairs_276 rfl ?_
                            refine g_if_eq X 286 dX11_layPairs_278 (by decide) (fun c278_146 => ?_) (fun c278_146 => absurd rfl c278_146)
                            refine g_iload X dX11_layPairs_286 rfl ?_
                            refine g_iast' X 2 rfl (i := i) rfl (by omega) (by omega) (ws' := [(mm, .inr (11, [.int le_, .ref mtx, .int po_, .ref mnu, .int fa_, .int rcl_, .int rle_, .ref mrc, .ref mrw, .ref mrl, .int (nI n), .ref mki, .ref mwa, .int ls_, .ref mle, .ref mno, .ref mtr, .ref mse, .ref mba, .int ba_, .ref mim, .int km_, .int si_, .ref msi, .ref mfo, .int fm_, .ref mor, .ref mbo, .ref mma, .ref mbm, .ref mso])), (mno, .inl (V.2.2.1, 15, .inl (stF day w g))), (mma, .inl (V.2.2.1, 7, .inl (upd m1 i (nI kk)))), (mbm, .inl (V.2.2.1, 7, .inl bo1))]) rfl dX11_layPairs_288 ?_
                            refine g_iload X dX11_layPairs_289 rfl ?_
                            refine g_if_ne X 330 dX11_layPairs_291 (by decide) (fun c291_147 => absurd rfl c291_147) (fun c291_147 => ?_)
                            refine g_aload_n X dX11_layPairs_294 rfl ?_
                            refine g_get X uwX11 0 rfl rfl 28 (by decide) kl_X11_61 rfl rfl gwX11 dX11_layPairs_295 ?_
                            refine g_iload X dX11_layPairs_298 rfl ?_
                            refine g_iload X dX11_layPairs_300 rfl ?_
                            refine g_iast' X 2 rfl (i := kk) rfl (by omega) (by omega) (ws' := [(mm, .inr (11, [.int le_, .ref mtx, .int po_, .ref mnu, .int fa_, .int rcl_, .int rle_, .ref mrc, .ref mrw, .ref mrl, .int (nI n), .ref mki, .ref mwa, .int ls_, .ref mle, .ref mno, .ref mtr, .ref mse, .ref mba, .int ba_, .ref mim, .int km_, .int si_, .ref msi, .ref mfo, .int fm_, .ref mor, .ref mbo, .ref mma, .ref mbm, .ref mso])), (mno, .inl (V.2.2.1, 15, .inl (stF day w g))), (mma, .inl (V.2.2.1, 7, .inl (upd (upd m1 i (nI kk)) kk (nI i)))), (mbm, .inl (V.2.2.1, 7, .inl bo1))]) rfl dX11_layPairs_302 ?_
                            refine g_iload X dX11_layPairs_303 rfl ?_
                            refine g_aload_n X dX11_layPairs_305 rfl ?_
                            refine g_get X uwX11 0 rfl rfl 15 (by decide) kl_X11_34 rfl rfl gwX11 dX11_layPairs_306 ?_
                            refine g_iconst X (1) dX11_layPairs_309 (by decide) ?_
                            refine g_iload X dX11_layPairs_310 rfl ?_
                            refine g_iadd X dX11_layPairs_312 ?_
                            refine g_toe (x' := nI (1 + kk)) (nI_add' rfl rfl) ?_
                            refine g_iald' X 1 rfl (i := (1 + kk)) rfl (by omega) (by omega) dX11_layPairs_313 ?_
                            refine g_toe (x' := w kk) (stF_w _ _ _ kk (by omega)) ?_
                            refine g_aload_n X dX11_layPairs_314 rfl ?_
                            refine g_get X uwX11 0 rfl rfl 15 (by decide) kl_X11_34 rfl rfl gwX11 dX11_layPairs_315 ?_
                            refine g_iconst X (1) dX11_layPairs_318 (by decide) ?_
                            refine g_iload X dX11_layPairs_319 rfl ?_
                            refine g_iadd X dX11_layPairs_321 ?_
                            refine g_toe (x' := nI (1 + i)) (nI_add' rfl rfl) ?_
                            refine g_iald' X 1 rfl (i := (1 + i)) rfl (by omega) (by omega) dX11_layPairs_322 ?_
                            refine g_toe (x' := w i) (stF_w _ _ _ i (by omega)) ?_
                            refine g_isub X dX11_layPairs_323 ?_
                            refine g_callSi X (c_X11_far V ((w kk) - (w i))) mo_X11_far kl_X11_151 [] [0, 0, 0, 0] rfl (by decide +kernel) rfl rfl (fun _ => Nat.le_of_ble_eq_true rfl) (As := [.int ((w kk) - (w i))]) (st := [.int su]) (cs' := (0, 0)) rfl rfl rfl dX11_layPairs_324 (fun r_152 u_148 hp_149 ws_151 hw_150 => ?_)
                            obtain rfl : r_152 = absF ((w kk) - (w i)) := hp_149
                            have hw_150x : ws_151 = [(mm, .inr (11, [.int le_, .ref mtx, .int po_, .ref mnu, .int fa_, .int rcl_, .int rle_, .ref mrc, .ref mrw, .ref mrl, .int (nI n), .ref mki, .ref mwa, .int ls_, .ref mle, .ref mno, .ref mtr, .ref mse, .ref mba, .int ba_, .ref mim, .int km_, .int si_, .ref msi, .ref mfo, .int fm_, .ref mor, .ref mbo, .ref mma, .ref mbm, .ref mso])), (mno, .inl (V.2.2.1, 15, .inl (stF day w g))), (mma, .inl (V.2.2.1, 7, .inl (upd (upd m1 i (nI kk)) kk (nI i)))), (mbm, .inl (V.2.2.1, 7, .inl bo1))] := hw_150.symm
                            clear hw_150; subst hw_150x
                            refine g_toe (x' := apartF w i kk) (abs_sym hB (by omega) (by omega)) ?_
                            refine g_iadd X dX11_layPairs_327 ?_
                            refine g_istore X (L' := [some (.ref mm), some (.int be), some (.int (nI code)), some (.int (nI (lM code (j + 1)))), some (.int (nI (t ||| 2 ^ i ||| 2 ^ kk))), some (.int (su + (apartF w i kk))), some (.int 0), some (.int (nI (uM (j + 1)))), some (.int (chM (j + 1))), some (.int (nI j)), some (.int (nI i)), some (.int (nI (qM code j))), some (.int (nI kk)), some (.int (nI r)), some (.int 0)]) dX11_layPairs_328 (by decide) rfl rfl ?_
                            have hst := st_2 ht hil (by omega) (hi_k hik (by omega) hhi hrc ((has_bit t ht8 kk (by omega)).mp c153_135) (by omega)) (by omega)
                            refine g_iinc X (v := nI (j + 1)) (L' := [some (.ref mm), some (.int be), some (.int (nI code)), some (.int (nI (lM code (j + 1)))), some (.int (nI (t ||| 2 ^ i ||| 2 ^ kk))), some (.int (su + (apartF w i kk))), some (.int 0), some (.int (nI (uM (j + 1)))), some (.int (chM (j + 1))), some (.int (nI (j + 1))), some (.int (nI i)), some (.int (nI (qM code j))), some (.int (nI kk)), some (.int (nI r)), some (.int 0)]) dX11_layPairs_330 rfl (nI_addk (by decide)) (by decide) rfl rfl ?_
                            refine g_goto X 33 dX11_layPairs_333 (by decide) ?_
                            refine g_sub (L' := [some (.ref mm), some (.int be), some (.int (nI code)), some (.int (nI (lM code (j + 1)))), some (.int (nI (t ||| 2 ^ i ||| 2 ^ kk))), some (.int (su + (apartF w i kk))), some (.int 0), some (.int (nI (uM (j + 1)))), some (.int (chM (j + 1))), some (.int (nI (j + 1))), none, none, none, none, none]) ⟨rfl, ⟨rfl, ⟨rfl, ⟨rfl, ⟨rfl, ⟨rfl, ⟨rfl, ⟨rfl, ⟨rfl, ⟨rfl, trivial⟩⟩⟩⟩⟩⟩⟩⟩⟩⟩ ?_
                            exact ih33 (j + 1) (by omega) (t ||| 2 ^ i ||| 2 ^ kk) (su + (apartF w i kk)) 0 (upd (upd m1 i (nI kk)) kk (nI i)) (by rw [hst]) (by rw [hst, sumL_a, if_pos (by show kk < n; omega), ← hsu]) (by rw [hst]; simp [so_b0 hso c205_144]) (by rw [hst, matL_a, if_pos (by show kk < n; omega), ← hm1])
                          · refine g_iload X dX11_layPairs_208 rfl ?_
                            refine g_if_eq X 238 dX11_layPairs_210 (by decide) (fun c210_153 => ?_) (fun c210_153 => absurd rfl c210_153)
                            refine g_iconst X (1) dX11_layPairs_238 (by decide) ?_
                            refine g_goto X 243 dX11_layPairs_239 (by decide) ?_
                            refine g_istore X (L' := [some (.ref mm), some (.int be), some (.int (nI code)), some (.int (nI (lM code (j + 1)))), some (.int (nI t)), some (.int su), some (.int 1), some (.int (nI (uM (j + 1)))), some (.int (chM (j + 1))), some (.int (nI j)), some (.int (nI i)), some (.int (nI (qM code j))), some (.int (nI kk)), some (.int (nI r)), some (.int 0)]) dX11_layPairs_243 (by decide) rfl rfl ?_
                            refine g_iload X dX11_layPairs_245 rfl ?_
                            refine g_iconst X (1) dX11_layPairs_247 (by decide) ?_
                            refine g_iload X dX11_layPairs_248 rfl ?_
                            refine g_ishl X dX11_layPairs_250 ?_
                            refine g_ior X dX11_layPairs_251 ?_
                            refine g_toe (x' := nI (t ||| 2 ^ i)) (bitor t ht8 i (by omega)) ?_
                            refine g_iload X dX11_layPairs_252 rfl ?_
                            refine g_if_eq X 263 dX11_layPairs_254 (by decide) (fun c254_154 => ?_) (fun c254_154 => absurd rfl c254_154)
                            refine g_iconst X (1) dX11_layPairs_263 (by decide) ?_
                            refine g_iload X dX11_layPairs_264 rfl ?_
                            refine g_ishl X dX11_layPairs_266 ?_
                            refine g_ior X dX11_layPairs_267 ?_
                            refine g_toe (x' := nI (t ||| 2 ^ i ||| 2 ^ kk)) (bitor _ (bitor_lt ht8 (by omega)) kk (by omega)) ?_
                            refine g_istore X (L' := [some (.ref mm), some (.int be), some (.int (nI code)), some (.int (nI (lM code (j + 1)))), some (.int (nI (t ||| 2 ^ i ||| 2 ^ kk))), some (.int su), some (.int 1), some (.int (nI (uM (j + 1)))), some (.int (chM (j + 1))), some (.int (nI j)), some (.int (nI i)), some (.int (nI (qM code j))), some (.int (nI kk)), some (.int (nI r)), some (.int 0)]) dX11_layPairs_268 (by decide) rfl rfl ?_
                            refine g_aload_n X dX11_layPairs_270 rfl ?_
                            refine g_get X uwX11 0 rfl rfl 28 (by decide) kl_X11_61 rfl rfl gwX11 dX11_layPairs_271 ?_
                            refine g_iload X dX11_layPairs_274 rfl ?_
                            refine g_iload X dX11_layPairs_276 rfl ?_
                            refine g_if_eq X 286 dX11_layPairs_278 (by decide) (fun c278_155 => ?_) (fun c278_155 => absurd rfl c278_155)
                            refine g_iload X dX11_layPairs_286 rfl ?_
                            refine g_iast' X 2 rfl (i := i) rfl (by omega) (by omega) (ws' := [(mm, .inr (11, [.int le_, .ref mtx, .int po_, .ref mnu, .int fa_, .int rcl_, .int rle_, .ref mrc, .ref mrw, .ref mrl, .int (nI n), .ref mki, .ref mwa, .int ls_, .ref mle, .ref mno, .ref mtr, .ref mse, .ref mba, .int ba_, .ref mim, .int km_, .int si_, .ref msi, .ref mfo, .int fm_, .ref mor, .ref mbo, .ref mma, .ref mbm, .ref mso])), (mno, .inl (V.2.2.1, 15, .inl (stF day w g))), (mma, .inl (V.2.2.1, 7, .inl (upd m1 i (nI kk)))), (mbm, .inl (V.2.2.1, 7, .inl bo1))]) rfl dX11_layPairs_288 ?_
                            refine g_iload X dX11_layPairs_289 rfl ?_
                            refine g_if_ne X 330 dX11_layPairs_291 (by decide) (fun c291_156 => absurd rfl c291_156) (fun c291_156 => ?_)
                            refine g_aload_n X dX11_layPairs_294 rfl ?_
                            refine g_get X uwX11 0 rfl rfl 28 (by decide) kl_X11_61 rfl rfl gwX11 dX11_layPairs_295 ?_
                            refine g_iload X dX11_layPairs_298 rfl ?_
                            refine g_iload X dX11_layPairs_300 rfl ?_
                            refine g_iast' X 2 rfl (i := kk) rfl (by omega) (by omega) (ws' := [(mm, .inr (11, [.int le_, .ref mtx, .int po_, .ref mnu, .int fa_, .int rcl_, .int rle_, .ref mrc, .ref mrw, .ref mrl, .int (nI n), .ref mki, .ref mwa, .int ls_, .ref mle, .ref mno, .ref mtr, .ref mse, .ref mba, .int ba_, .ref mim, .int km_, .int si_, .ref msi, .ref mfo, .int fm_, .ref mor, .ref mbo, .ref mma, .ref mbm, .ref mso])), (mno, .inl (V.2.2.1, 15, .inl (stF day w g))), (mma, .inl (V.2.2.1, 7, .inl (upd (upd m1 i (nI kk)) kk (nI i)))), (mbm, .inl (V.2.2.1, 7, .inl bo1))]) rfl dX11_layPairs_302 ?_
                            refine g_iload X dX11_layPairs_303 rfl ?_
                            refine g_aload_n X dX11_layPairs_305 rfl ?_
                            refine g_get X uwX11 0 rfl rfl 15 (by decide) kl_X11_34 rfl rfl gwX11 dX11_layPairs_306 ?_
                            refine g_iconst X (1) dX11_layPairs_309 (by decide) ?_
                            refine g_iload X dX11_layPairs_310 rfl ?_
                            refine g_iadd X dX11_layPairs_312 ?_
                            refine g_toe (x' := nI (1 + kk)) (nI_add' rfl rfl) ?_
                            refine g_iald' X 1 rfl (i := (1 + kk)) rfl (by omega) (by omega) dX11_layPairs_313 ?_
                            refine g_toe (x' := w kk) (stF_w _ _ _ kk (by omega)) ?_
                            refine g_aload_n X dX11_layPairs_314 rfl ?_
                            refine g_get X uwX11 0 rfl rfl 15 (by decide) kl_X11_34 rfl rfl gwX11 dX11_layPairs_315 ?_
                            refine g_iconst X (1) dX11_layPairs_318 (by decide) ?_
                            refine g_iload X dX11_layPairs_319 rfl ?_
                            refine g_iadd X dX11_layPairs_321 ?_
                            refine g_toe (x' := nI (1 + i)) (nI_add' rfl rfl) ?_
                            refine g_iald' X 1 rfl (i := (1 + i)) rfl (by omega) (by omega) dX11_layPairs_322 ?_
                            refine g_toe (x' := w i) (stF_w _ _ _ i (by omega)) ?_
                            refine g_isub X dX11_layPairs_323 ?_
                            refine g_callSi X (c_X11_far V ((w kk) - (w i))) mo_X11_far kl_X11_151 [] [0, 0, 0, 0] rfl (by decide +kernel) rfl rfl (fun _ => Nat.le_of_ble_eq_true rfl) (As := [.int ((w kk) - (w i))]) (st := [.int su]) (cs' := (0, 0)) rfl rfl rfl dX11_layPairs_324 (fun r_161 u_157 hp_158 ws_160 hw_159 => ?_)
                            obtain rfl : r_161 = absF ((w kk) - (w i)) := hp_158
                            have hw_159x : ws_160 = [(mm, .inr (11, [.int le_, .ref mtx, .int po_, .ref mnu, .int fa_, .int rcl_, .int rle_, .ref mrc, .ref mrw, .ref mrl, .int (nI n), .ref mki, .ref mwa, .int ls_, .ref mle, .ref mno, .ref mtr, .ref mse, .ref mba, .int ba_, .ref mim, .int km_, .int si_, .ref msi, .ref mfo, .int fm_, .ref mor, .ref mbo, .ref mma, .ref mbm, .ref mso])), (mno, .inl (V.2.2.1, 15, .inl (stF day w g))), (mma, .inl (V.2.2.1, 7, .inl (upd (upd m1 i (nI kk)) kk (nI i)))), (mbm, .inl (V.2.2.1, 7, .inl bo1))] := hw_159.symm
                            clear hw_159; subst hw_159x
                            refine g_toe (x' := apartF w i kk) (abs_sym hB (by omega) (by omega)) ?_
                            refine g_iadd X dX11_layPairs_327 ?_
                            refine g_istore X (L' := [some (.ref mm), some (.int be), some (.int (nI code)), some (.int (nI (lM code (j + 1)))), some (.int (nI (t ||| 2 ^ i ||| 2 ^ kk))), some (.int (su + (apartF w i kk))), some (.int 1), some (.int (nI (uM (j + 1)))), some (.int (chM (j + 1))), some (.int (nI j)), some (.int (nI i)), some (.int (nI (qM code j))), some (.int (nI kk)), some (.int (nI r)), some (.int 0)]) dX11_layPairs_328 (by decide) rfl rfl ?_
                            have hst := st_2 ht hil (by omega) (hi_k hik (by omega) hhi hrc ((has_bit t ht8 kk (by omega)).mp c153_135) (by omega)) (by omega)
                            refine g_iinc X (v := nI (j + 1)) (L' := [some (.ref mm), some (.int be), some (.int (nI code)), some (.int (nI (lM code (j + 1)))), some (.int (nI (t ||| 2 ^ i ||| 2 ^ kk))), some (.int (su + (apartF w i kk))), some (.int 1), some (.int (nI (uM (j + 1)))), some (.int (chM (j + 1))), some (.int (nI (j + 1))), some (.int (nI i)), some (.int (nI (qM code j))), some (.int (nI kk)), some (.int (nI r)), some (.int 0)]) dX11_layPairs_330 rfl (nI_addk (by decide)) (by decide) rfl rfl ?_
                            refine g_goto X 33 dX11_layPairs_333 (by decide) ?_
                            refine g_sub (L' := [some (.ref mm), some (.int be), some (.int (nI code)), some (.int (nI (lM code (j + 1)))), some (.int (nI (t ||| 2 ^ i ||| 2 ^ kk))), some (.int (su + (apartF w i kk))), some (.int 1), some (.int (nI (uM (j + 1)))), some (.int (chM (j + 1))), some (.int (nI (j + 1))), none, none, none, none, none]) ⟨rfl, ⟨rfl, ⟨rfl, ⟨rfl, ⟨rfl, ⟨rfl, ⟨rfl, ⟨rfl, ⟨rfl, ⟨rfl, trivial⟩⟩⟩⟩⟩⟩⟩⟩⟩⟩ ?_
                            exact ih33 (j + 1) (by omega) (t ||| 2 ^ i ||| 2 ^ kk) (su + (apartF w i kk)) 1 (upd (upd m1 i (nI kk)) kk (nI i)) (by rw [hst]) (by rw [hst, sumL_a, if_pos (by show kk < n; omega), ← hsu]) (by rw [hst]; simp [so_b1 hso c205_144]) (by rw [hst, matL_a, if_pos (by show kk < n; omega), ← hm1])
                        · have c158_142n := inle' (a := r) (b := 0) c158_142 (by omega) (by omega)
                          refine g_iload X dX11_layPairs_161 rfl ?_
                          refine g_iload X dX11_layPairs_163 rfl ?_
                          refine g_iload X dX11_layPairs_165 rfl ?_
                          refine g_callSi X (c_X11_has V (nI t) kk) mo_X11_has kl_X11_158 [] [0, 0, 0, 0] rfl (by decide +kernel) rfl rfl (fun _ => Nat.le_of_ble_eq_true rfl) (As := [.int (nI t), .int (nI kk)]) (st := [.int (nI r)]) (cs' := (0, 0)) rfl rfl rfl dX11_layPairs_167 (fun r_166 u_162 hp_163 ws_165 hw_164 => ?_)
                          obtain rfl : r_166 = hasF (nI t) kk := hp_163
                          have hw_164x : ws_165 = [(mm, .inr (11, [.int le_, .ref mtx, .int po_, .ref mnu, .int fa_, .int rcl_, .int rle_, .ref mrc, .ref mrw, .ref mrl, .int (nI n), .ref mki, .ref mwa, .int ls_, .ref mle, .ref mno, .ref mtr, .ref mse, .ref mba, .int ba_, .ref mim, .int km_, .int si_, .ref msi, .ref mfo, .int fm_, .ref mor, .ref mbo, .ref mma, .ref mbm, .ref mso])), (mno, .inl (V.2.2.1, 15, .inl (stF day w g))), (mma, .inl (V.2.2.1, 7, .inl m1)), (mbm, .inl (V.2.2.1, 7, .inl bo1))] := hw_164.symm
                          clear hw_164; subst hw_164x
                          refine g_if_eq X 177 dX11_layPairs_170 (by decide) (fun c170_167 => ?_) (fun c170_167 => absurd c153_135 c170_167)
                          refine g_iconst X (1) dX11_layPairs_177 (by decide) ?_
                          refine g_isub X dX11_layPairs_178 ?_
                          refine g_toe (x' := nI (r - 1)) (nI_sub' rfl rfl (by omega)) ?_
                          refine g_istore X (L' := [some (.ref mm), some (.int be), some (.int (nI code)), some (.int (nI (lM code (j + 1)))), some (.int (nI t)), some (.int su), some (.int so), some (.int (nI (uM (j + 1)))), some (.int (chM (j + 1))), some (.int (nI j)), some (.int (nI i)), some (.int (nI (qM code j))), some (.int (nI kk)), some (.int (nI (r - 1))), none]) dX11_layPairs_179 (by decide) rfl rfl ?_
                          refine g_iinc X (v := nI (kk + 1)) (L' := [some (.ref mm), some (.int be), some (.int (nI code)), some (.int (nI (lM code (j + 1)))), some (.int (nI t)), some (.int su), some (.int so), some (.int (nI (uM (j + 1)))), some (.int (chM (j + 1))), some (.int (nI j)), some (.int (nI i)), some (.int (nI (qM code j))), some (.int (nI (kk + 1))), some (.int (nI (r - 1))), none]) dX11_layPairs_181 rfl (nI_addk (by decide)) (by decide) rfl rfl ?_
                          refine g_goto X 137 dX11_layPairs_184 (by decide) ?_
                          exact ih137 (kk + 1) (by omega) (r - 1) (by omega) (h_F hik hrc ((has_bit t ht8 kk (by omega)).mp c153_135) (by omega)) (g_F hik hhi hrc ((has_bit t ht8 kk (by omega)).mp c153_135) (by omega))
                  exact loop137_101 (n - (i + 1)) (i + 1) (by omega) (qM code j) (Nat.lt_succ_self _) (by rw [hP_0 t i _ (Nat.le_refl _), Nat.add_zero]) (hiP_0 t i _ _ (Nat.le_refl _))
              · refine g_iinc X (v := nI (i + 1)) (L' := [some (.ref mm), some (.int be), some (.int (nI code)), some (.int (nI (lM code j))), some (.int (nI t)), some (.int su), some (.int so), some (.int (nI (uM j))), some (.int (chM j)), some (.int (nI j)), some (.int (nI (i + 1))), none, none, none, none]) dX11_layPairs_61 rfl (nI_addk (by decide)) (by decide) rfl rfl ?_
                refine g_goto X 42 dX11_layPairs_64 (by decide) ?_
                exact ih42 (i + 1) (by omega) (lo_s hlo (by have z := c58_30; cases hb : t.testBit i with | true => rfl | false => exact absurd ((has_bit t ht8 i (by omega)).mpr hb) z))
          exact loop42_15 n 0 (by omega) rfl
      exact loop33_3 4 0 (by omega) 0 0 1 ma1 rfl rfl rfl rfl
  exact loop5 105 0 (by omega) (-4) ma bm rfl (Or.inl rfl)

set_option maxHeartbeats 4000000 in
set_option maxRecDepth 100000 in
theorem w_pairs_sum (V : gV) (mm : Nat) (mtx : Nat) (mnu : Nat) (mrc : Nat) (mrw : Nat) (mrl : Nat) (mki : Nat) (mwa : Nat) (mle : Nat) (mno : Nat) (mtr : Nat) (mse : Nat) (mba : Nat) (mim : Nat) (msi : Nat) (mfo : Nat) (mor : Nat) (mbo : Nat) (mma : Nat) (mbm : Nat) (mso : Nat) (le_ : Int32) (po_ : Int32) (fa_ : Int32) (rcl_ : Int32) (rle_ : Int32) (n : Nat) (ls_ : Int32) (ba_ : Int32) (km_ : Int32) (si_ : Int32) (fm_ : Int32) (day : Int32) (w : Nat → Int32) (g : Nat → Int32) (ma : Nat → Int32) (bm : Nat → Int32) (hn : n ≤ 7) (h1n : 1 ≤ n) (hB : Bd n w) : Ki V yX11_pairs cX11_pairs 3 .int ({ frames := 2, cells := 0, slots := 0, locals := 55 }) [.ref mm, .int (-1)] [(mm, .inr (11, [.int le_, .ref mtx, .int po_, .ref mnu, .int fa_, .int rcl_, .int rle_, .ref mrc, .ref mrw, .ref mrl, .int (nI n), .ref mki, .ref mwa, .int ls_, .ref mle, .ref mno, .ref mtr, .ref mse, .ref mba, .int ba_, .ref mim, .int km_, .int si_, .ref msi, .ref mfo, .int fm_, .ref mor, .ref mbo, .ref mma, .ref mbm, .ref mso])), (mno, .inl (V.2.2.1, 15, .inl (stF day w g))), (mma, .inl (V.2.2.1, 7, .inl ma)), (mbm, .inl (V.2.2.1, 7, .inl bm))] (fun (r : Int32) (u : (Nat → Int32) × (Nat → Int32)) => r = (bestP n w (waysP n)).1) (fun u => [(mm, .inr (11, [.int le_, .ref mtx, .int po_, .ref mnu, .int fa_, .int rcl_, .int rle_, .ref mrc, .ref mrw, .ref mrl, .int (nI n), .ref mki, .ref mwa, .int ls_, .ref mle, .ref mno, .ref mtr, .ref mse, .ref mba, .int ba_, .ref mim, .int km_, .int si_, .ref msi, .ref mfo, .int fm_, .ref mor, .ref mbo, .ref mma, .ref mbm, .ref mso])), (mno, .inl (V.2.2.1, 15, .inl (stF day w g))), (mma, .inl (V.2.2.1, 7, .inl u.1)), (mbm, .inl (V.2.2.1, 7, .inl u.2))]) := by
  refine Ki.of [some (.ref mm), some (.int (-1)), none] (by decide) (Nat.le_of_ble_eq_true rfl) rfl rfl ?_
  intro Z X E
  have X : gX V Z RX11 cX11_pairs 3 ({ frames := 2, cells := 0, slots := 0, locals := 55 }) := X
  refine g_iload_n X dX11_pairs_0 rfl ?_
  refine g_iconst X (-1) dX11_pairs_1 (by decide) ?_
  refine g_aload_n X dX11_pairs_2 rfl ?_
  refine g_get X uwX11 0 rfl rfl 10 (by decide) kl_X11_91 rfl rfl gwX11 dX11_pairs_3 ?_
  refine g_iconst X (1) dX11_pairs_6 (by decide) ?_
  refine g_isub X dX11_pairs_7 ?_
  refine g_toe (x' := nI (n - 1)) (nI_sub' rfl rfl (by omega)) ?_
  refine g_callSi X (c_X11_in V (-1) (-1) (nI (n - 1))) mo_X11_in kl_X11_94 [] [0, 0, 0, 0] rfl (by decide +kernel) rfl rfl (fun _ => Nat.le_of_ble_eq_true rfl) (As := [.int (-1), .int (-1), .int (nI (n - 1))]) (st := []) (cs' := (0, 0)) rfl rfl rfl dX11_pairs_8 (fun r_5 u_1 hp_2 ws_4 hw_3 => ?_)
  obtain rfl : r_5 = inF (-1) (-1) (nI (n - 1)) := hp_2
  have hw_3x : ws_4 = [(mm, .inr (11, [.int le_, .ref mtx, .int po_, .ref mnu, .int fa_, .int rcl_, .int rle_, .ref mrc, .ref mrw, .ref mrl, .int (nI n), .ref mki, .ref mwa, .int ls_, .ref mle, .ref mno, .ref mtr, .ref mse, .ref mba, .int ba_, .ref mim, .int km_, .int si_, .ref msi, .ref mfo, .int fm_, .ref mor, .ref mbo, .ref mma, .ref mbm, .ref mso])), (mno, .inl (V.2.2.1, 15, .inl (stF day w g))), (mma, .inl (V.2.2.1, 7, .inl ma)), (mbm, .inl (V.2.2.1, 7, .inl bm))] := hw_3.symm
  clear hw_3; subst hw_3x
  refine g_if_ne X 16 dX11_pairs_11 (by decide) (fun c11_6 => ?_) (fun c11_6 => absurd c11_6 (by rw [inF_1 (by decide) (inm1 h1n (by omega))]; decide))
  refine g_aload_n X dX11_pairs_16 rfl ?_
  refine g_callVi X (c_X11_layPairs V mm mtx mnu mrc mrw mrl mki mwa mle mno mtr mse mba mim msi mfo mor mbo mma mbm mso le_ po_ fa_ rcl_ rle_ n ls_ ba_ km_ si_ fm_ day w g ma bm (by omega) (by omega) (by omega)) mo_X11_layPairs kl_X11_195 [0, 1, 2, 3] [1, 2, 3, 4] rfl (by decide +kernel) rfl rfl (fun _ => Nat.le_of_ble_eq_true rfl) 0 11 rfl rfl (As := []) (st := []) (cs' := (0, 0)) rfl rfl rfl rfl dX11_pairs_17 (fun r_11 u_7 hp_8 ws_10 hw_9 => ?_)
  obtain ⟨na_12, nb_13⟩ := u_7
  obtain ⟨rfl, hnb_14⟩ : r_11 = (bestP n w (waysP n)).1 ∧ (∀ j, j < n → nb_13 j = (bestP n w (waysP n)).2 j) := hp_8
  have hw_9x : ws_10 = [(mm, .inr (11, [.int le_, .ref mtx, .int po_, .ref mnu, .int fa_, .int rcl_, .int rle_, .ref mrc, .ref mrw, .ref mrl, .int (nI n), .ref mki, .ref mwa, .int ls_, .ref mle, .ref mno, .ref mtr, .ref mse, .ref mba, .int ba_, .ref mim, .int km_, .int si_, .ref msi, .ref mfo, .int fm_, .ref mor, .ref mbo, .ref mma, .ref mbm, .ref mso])), (mno, .inl (V.2.2.1, 15, .inl (stF day w g))), (mma, .inl (V.2.2.1, 7, .inl na_12)), (mbm, .inl (V.2.2.1, 7, .inl nb_13))] := hw_9.symm
  clear hw_9; subst hw_9x
  refine g_istore_n X (L' := [some (.ref mm), some (.int (-1)), some (.int ((bestP n w (waysP n)).1))]) dX11_pairs_20 (by decide) rfl rfl ?_
  refine g_iload_n X dX11_pairs_21 rfl ?_
  refine g_if_ge X 29 dX11_pairs_22 (by decide) (fun c22_15 => absurd c22_15 (by decide)) (fun c22_15 => ?_)
  refine g_iload_n X dX11_pairs_25 rfl ?_
  refine g_goto X 35 dX11_pairs_26 (by decide) ?_
  exact g_iret X E dX11_pairs_35 ⟨na_12, nb_13⟩ ((bestP n w (waysP n)).1) rfl rfl

set_option maxHeartbeats 4000000 in
set_option maxRecDepth 100000 in
theorem w_pairs_c (V : gV) (mm : Nat) (mtx : Nat) (mnu : Nat) (mrc : Nat) (mrw : Nat) (mrl : Nat) (mki : Nat) (mwa : Nat) (mle : Nat) (mno : Nat) (mtr : Nat) (mse : Nat) (mba : Nat) (mim : Nat) (msi : Nat) (mfo : Nat) (mor : Nat) (mbo : Nat) (mma : Nat) (mbm : Nat) (mso : Nat) (le_ : Int32) (po_ : Int32) (fa_ : Int32) (rcl_ : Int32) (rle_ : Int32) (n : Nat) (ls_ : Int32) (ba_ : Int32) (km_ : Int32) (si_ : Int32) (fm_ : Int32) (day : Int32) (w : Nat → Int32) (g : Nat → Int32) (ma : Nat → Int32) (bm : Nat → Int32) (c : Nat) (hn : n ≤ 7) (h1n : 1 ≤ n) (hB : Bd n w) (hc : c < n) : Ki V yX11_pairs cX11_pairs 3 .int ({ frames := 2, cells := 0, slots := 0, locals := 55 }) [.ref mm, .int (nI c)] [(mm, .inr (11, [.int le_, .ref mtx, .int po_, .ref mnu, .int fa_, .int rcl_, .int rle_, .ref mrc, .ref mrw, .ref mrl, .int (nI n), .ref mki, .ref mwa, .int ls_, .ref mle, .ref mno, .ref mtr, .ref mse, .ref mba, .int ba_, .ref mim, .int km_, .int si_, .ref msi, .ref mfo, .int fm_, .ref mor, .ref mbo, .ref mma, .ref mbm, .ref mso])), (mno, .inl (V.2.2.1, 15, .inl (stF day w g))), (mma, .inl (V.2.2.1, 7, .inl ma)), (mbm, .inl (V.2.2.1, 7, .inl bm))] (fun (r : Int32) (u : (Nat → Int32) × (Nat → Int32)) => r = (bestP n w (waysP n)).2 c) (fun u => [(mm, .inr (11, [.int le_, .ref mtx, .int po_, .ref mnu, .int fa_, .int rcl_, .int rle_, .ref mrc, .ref mrw, .ref mrl, .int (nI n), .ref mki, .ref mwa, .int ls_, .ref mle, .ref mno, .ref mtr, .ref mse, .ref mba, .int ba_, .ref mim, .int km_, .int si_, .ref msi, .ref mfo, .int fm_, .ref mor, .ref mbo, .ref mma, .ref mbm, .ref mso])), (mno, .inl (V.2.2.1, 15, .inl (stF day w g))), (mma, .inl (V.2.2.1, 7, .inl u.1)), (mbm, .inl (V.2.2.1, 7, .inl u.2))]) := by
  refine Ki.of [some (.ref mm), some (.int (nI c)), none] (by decide) (Nat.le_of_ble_eq_true rfl) rfl rfl ?_
  intro Z X E
  have X : gX V Z RX11 cX11_pairs 3 ({ frames := 2, cells := 0, slots := 0, locals := 55 }) := X
  refine g_iload_n X dX11_pairs_0 rfl ?_
  refine g_iconst X (-1) dX11_pairs_1 (by decide) ?_
  refine g_aload_n X dX11_pairs_2 rfl ?_
  refine g_get X uwX11 0 rfl rfl 10 (by decide) kl_X11_91 rfl rfl gwX11 dX11_pairs_3 ?_
  refine g_iconst X (1) dX11_pairs_6 (by decide) ?_
  refine g_isub X dX11_pairs_7 ?_
  refine g_toe (x' := nI (n - 1)) (nI_sub' rfl rfl (by omega)) ?_
  refine g_callSi X (c_X11_in V (nI c) (-1) (nI (n - 1))) mo_X11_in kl_X11_94 [] [0, 0, 0, 0] rfl (by decide +kernel) rfl rfl (fun _ => Nat.le_of_ble_eq_true rfl) (As := [.int (nI c), .int (-1), .int (nI (n - 1))]) (st := []) (cs' := (0, 0)) rfl rfl rfl dX11_pairs_8 (fun r_5 u_1 hp_2 ws_4 hw_3 => ?_)
  obtain rfl : r_5 = inF (nI c) (-1) (nI (n - 1)) := hp_2
  have hw_3x : ws_4 = [(mm, .inr (11, [.int le_, .ref mtx, .int po_, .ref mnu, .int fa_, .int rcl_, .int rle_, .ref mrc, .ref mrw, .ref mrl, .int (nI n), .ref mki, .ref mwa, .int ls_, .ref mle, .ref mno, .ref mtr, .ref mse, .ref mba, .int ba_, .ref mim, .int km_, .int si_, .ref msi, .ref mfo, .int fm_, .ref mor, .ref mbo, .ref mma, .ref mbm, .ref mso])), (mno, .inl (V.2.2.1, 15, .inl (stF day w g))), (mma, .inl (V.2.2.1, 7, .inl ma)), (mbm, .inl (V.2.2.1, 7, .inl bm))] := hw_3.symm
  clear hw_3; subst hw_3x
  refine g_if_ne X 16 dX11_pairs_11 (by decide) (fun c11_6 => ?_) (fun c11_6 => absurd c11_6 (by rw [inF_1 ((innn c).resolve_right (by omega)) (flt (by omega) (by omega) (by omega))]; decide))
  refine g_aload_n X dX11_pairs_16 rfl ?_
  refine g_callVi X (c_X11_layPairs V mm mtx mnu mrc mrw mrl mki mwa mle mno mtr mse mba mim msi mfo mor mbo mma mbm mso le_ po_ fa_ rcl_ rle_ n ls_ ba_ km_ si_ fm_ day w g ma bm (by omega) (by omega) (by omega)) mo_X11_layPairs kl_X11_195 [0, 1, 2, 3] [1, 2, 3, 4] rfl (by decide +kernel) rfl rfl (fun _ => Nat.le_of_ble_eq_true rfl) 0 11 rfl rfl (As := []) (st := []) (cs' := (0, 0)) rfl rfl rfl rfl dX11_pairs_17 (fun r_11 u_7 hp_8 ws_10 hw_9 => ?_)
  obtain ⟨na_12, nb_13⟩ := u_7
  obtain ⟨rfl, hnb_14⟩ : r_11 = (bestP n w (waysP n)).1 ∧ (∀ j, j < n → nb_13 j = (bestP n w (waysP n)).2 j) := hp_8
  have hw_9x : ws_10 = [(mm, .inr (11, [.int le_, .ref mtx, .int po_, .ref mnu, .int fa_, .int rcl_, .int rle_, .ref mrc, .ref mrw, .ref mrl, .int (nI n), .ref mki, .ref mwa, .int ls_, .ref mle, .ref mno, .ref mtr, .ref mse, .ref mba, .int ba_, .ref mim, .int km_, .int si_, .ref msi, .ref mfo, .int fm_, .ref mor, .ref mbo, .ref mma, .ref mbm, .ref mso])), (mno, .inl (V.2.2.1, 15, .inl (stF day w g))), (mma, .inl (V.2.2.1, 7, .inl na_12)), (mbm, .inl (V.2.2.1, 7, .inl nb_13))] := hw_9.symm
  clear hw_9; subst hw_9x
  refine g_istore_n X (L' := [some (.ref mm), some (.int (nI c)), some (.int ((bestP n w (waysP n)).1))]) dX11_pairs_20 (by decide) rfl rfl ?_
  refine g_iload_n X dX11_pairs_21 rfl ?_
  refine g_if_ge X 29 dX11_pairs_22 (by decide) (fun c22_15 => ?_) (fun c22_15 => absurd (tge (a := c) (b := 0) (by omega) (by omega) (by omega)) c22_15)
  refine g_aload_n X dX11_pairs_29 rfl ?_
  refine g_get X uwX11 0 rfl rfl 29 (by decide) kl_X11_64 rfl rfl gwX11 dX11_pairs_30 ?_
  refine g_iload_n X dX11_pairs_33 rfl ?_
  refine g_iald' X 3 rfl (i := c) rfl (by omega) (by omega) dX11_pairs_34 ?_
  exact g_iret X E dX11_pairs_35 ⟨na_12, nb_13⟩ (nb_13 c) (hnb_14 c hc) rfl
