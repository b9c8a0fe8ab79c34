set_option maxHeartbeats 4000000 in
set_option maxRecDepth 100000 in
theorem c_X11_layClock (V : gV) (mm : Nat) (mtx : Nat) (mnu : Nat) (mrc : Nat) (mrw : Nat) (mrl : Nat) (mki : Nat) (mwa : Nat) (mle : Nat) (mno : Nat) (mtr : Nat) (mse : Nat) (mba : Nat) (mim : Nat) (msi : Nat) (mfo : Nat) (mor : Nat) (mbo : Nat) (mma : Nat) (mbm : Nat) (mso : Nat) (le_ : Int32) (po_ : Int32) (fa_ : Int32) (rcl_ : Int32) (rle_ : Int32) (cl_ : Int32) (ls_ : Int32) (ba_ : Int32) (km_ : Int32) (si_ : Int32) (fm_ : Int32) (kr : Nat → Nat) (kw : Nat → Nat) (kg : Nat → Nat) (i : Nat) (a : Nat) (b : Nat) (c : Nat) (hi : i < 7) : Kv V yX11_layClock cX11_layClock 5 ({ frames := 0, cells := 0, slots := 0, locals := 0 }) [.ref mm, .int (nI i), .int (nI a), .int (nI b), .int (nI c)] [(mm, .inr (11, [.int le_, .ref mtx, .int po_, .ref mnu, .int fa_, .int rcl_, .int rle_, .ref mrc, .ref mrw, .ref mrl, .int cl_, .ref mki, .ref mwa, .int ls_, .ref mle, .ref mno, .ref mtr, .ref mse, .ref mba, .int ba_, .ref mim, .int km_, .int si_, .ref msi, .ref mfo, .int fm_, .ref mor, .ref mbo, .ref mma, .ref mbm, .ref mso])), (mrc, .inl (V.2.2.1, 21, .inl (leF kr kw kg)))] (fun u : Unit => True) (fun u => [(mm, .inr (11, [.int le_, .ref mtx, .int po_, .ref mnu, .int fa_, .int rcl_, .int rle_, .ref mrc, .ref mrw, .ref mrl, .int cl_, .ref mki, .ref mwa, .int ls_, .ref mle, .ref mno, .ref mtr, .ref mse, .ref mba, .int ba_, .ref mim, .int km_, .int si_, .ref msi, .ref mfo, .int fm_, .ref mor, .ref mbo, .ref mma, .ref mbm, .ref mso])), (mrc, .inl (V.2.2.1, 21, .inl (leF (updN kr i a) (updN kw i b) (updN kg i c))))]) := by
  refine Kv.of [some (.ref mm), some (.int (nI i)), some (.int (nI a)), some (.int (nI b)), some (.int (nI c))] (by decide) (Nat.le_of_ble_eq_true rfl) rfl rfl ?_
  intro Z X E
  have X : gX V Z RX11 cX11_layClock 5 ({ frames := 0, cells := 0, slots := 0, locals := 0 }) := X
  refine g_aload_n X dX11_layClock_0 rfl ?_
  refine g_get X uwX11 0 rfl rfl 7 (by decide) kl_X11_16 rfl rfl gwX11 dX11_layClock_1 ?_
  refine g_iconst X (3) dX11_layClock_4 (by decide) ?_
  refine g_iload_n X dX11_layClock_5 rfl ?_
  refine g_imul X dX11_layClock_6 ?_
  refine g_toe (x' := nI (3 * i)) (nI_mul' rfl rfl) ?_
  refine g_iload_n X dX11_layClock_7 rfl ?_
  refine g_iast' X 1 rfl (i := (3 * i)) rfl (by omega) (by omega) (ws' := [(mm, .inr (11, [.int le_, .ref mtx, .int po_, .ref mnu, .int fa_, .int rcl_, .int rle_, .ref mrc, .ref mrw, .ref mrl, .int cl_, .ref mki, .ref mwa, .int ls_, .ref mle, .ref mno, .ref mtr, .ref mse, .ref mba, .int ba_, .ref mim, .int km_, .int si_, .ref msi, .ref mfo, .int fm_, .ref mor, .ref mbo, .ref mma, .ref mbm, .ref mso])), (mrc, .inl (V.2.2.1, 21, .inl (upd (leF kr kw kg) (3 * i) (nI a))))]) rfl dX11_layClock_8 ?_
  refine g_arr 1 (leF (updN kr i a) kw kg) rfl (leF_u0 _ _ _ i a 21) (ws' := [(mm, .inr (11, [.int le_, .ref mtx, .int po_, .ref mnu, .int fa_, .int rcl_, .int rle_, .ref mrc, .ref mrw, .ref mrl, .int cl_, .ref mki, .ref mwa, .int ls_, .ref mle, .ref mno, .ref mtr, .ref mse, .ref mba, .int ba_, .ref mim, .int km_, .int si_, .ref msi, .ref mfo, .int fm_, .ref mor, .ref mbo, .ref mma, .ref mbm, .ref mso])), (mrc, .inl (V.2.2.1, 21, .inl (leF (updN kr i a) kw kg)))]) rfl ?_
  refine g_aload_n X dX11_layClock_9 rfl ?_
  refine g_get X uwX11 0 rfl rfl 7 (by decide) kl_X11_16 rfl rfl gwX11 dX11_layClock_10 ?_
  refine g_iconst X (3) dX11_layClock_13 (by decide) ?_
  refine g_iload_n X dX11_layClock_14 rfl ?_
  refine g_imul X dX11_layClock_15 ?_
  refine g_toe (x' := nI (3 * i)) (nI_mul' rfl rfl) ?_
  refine g_iconst X (1) dX11_layClock_16 (by decide) ?_
  refine g_iadd X dX11_layClock_17 ?_
  refine g_toe (x' := nI (3 * i + 1)) (nI_add' rfl rfl) ?_
  refine g_iload_n X dX11_layClock_18 rfl ?_
  refine g_iast' X 1 rfl (i := (3 * i + 1)) rfl (by omega) (by omega) (ws' := [(mm, .inr (11, [.int le_, .ref mtx, .int po_, .ref mnu, .int fa_, .int rcl_, .int rle_, .ref mrc, .ref mrw, .ref mrl, .int cl_, .ref mki, .ref mwa, .int ls_, .ref mle, .ref mno, .ref mtr, .ref mse, .ref mba, .int ba_, .ref mim, .int km_, .int si_, .ref msi, .ref mfo, .int fm_, .ref mor, .ref mbo, .ref mma, .ref mbm, .ref mso])), (mrc, .inl (V.2.2.1, 21, .inl (upd (leF (updN kr i a) kw kg) (3 * i + 1) (nI b))))]) rfl dX11_layClock_19 ?_
  refine g_arr 1 (leF (updN kr i a) (updN kw i b) kg) rfl (leF_u1 _ _ _ i b 21) (ws' := [(mm, .inr (11, [.int le_, .ref mtx, .int po_, .ref mnu, .int fa_, .int rcl_, .int rle_, .ref mrc, .ref mrw, .ref mrl, .int cl_, .ref mki, .ref mwa, .int ls_, .ref mle, .ref mno, .ref mtr, .ref mse, .ref mba, .int ba_, .ref mim, .int km_, .int si_, .ref msi, .ref mfo, .int fm_, .ref mor, .ref mbo, .ref mma, .ref mbm, .ref mso])), (mrc, .inl (V.2.2.1, 21, .inl (leF (updN kr i a) (updN kw i b) kg)))]) rfl ?_
  refine g_aload_n X dX11_layClock_20 rfl ?_
  refine g_get X uwX11 0 rfl rfl 7 (by decide) kl_X11_16 rfl rfl gwX11 dX11_layClock_21 ?_
  refine g_iconst X (3) dX11_layClock_24 (by decide) ?_
  refine g_iload_n X dX11_layClock_25 rfl ?_
  refine g_imul X dX11_layClock_26 ?_
  refine g_toe (x' := nI (3 * i)) (nI_mul' rfl rfl) ?_
  refine g_iconst X (2) dX11_layClock_27 (by decide) ?_
  refine g_iadd X dX11_layClock_28 ?_
  refine g_toe (x' := nI (3 * i + 2)) (nI_add' rfl rfl) ?_
  refine g_iload X dX11_layClock_29 rfl ?_
  refine g_iast' X 1 rfl (i := (3 * i + 2)) rfl (by omega) (by omega) (ws' := [(mm, .inr (11, [.int le_, .ref mtx, .int po_, .ref mnu, .int fa_, .int rcl_, .int rle_, .ref mrc, .ref mrw, .ref mrl, .int cl_, .ref mki, .ref mwa, .int ls_, .ref mle, .ref mno, .ref mtr, .ref mse, .ref mba, .int ba_, .ref mim, .int km_, .int si_, .ref msi, .ref mfo, .int fm_, .ref mor, .ref mbo, .ref mma, .ref mbm, .ref mso])), (mrc, .inl (V.2.2.1, 21, .inl (upd (leF (updN kr i a) (updN kw i b) kg) (3 * i + 2) (nI c))))]) rfl dX11_layClock_31 ?_
  refine g_arr 1 (leF (updN kr i a) (updN kw i b) (updN kg i c)) rfl (leF_u2 _ _ _ i c 21) (ws' := [(mm, .inr (11, [.int le_, .ref mtx, .int po_, .ref mnu, .int fa_, .int rcl_, .int rle_, .ref mrc, .ref mrw, .ref mrl, .int cl_, .ref mki, .ref mwa, .int ls_, .ref mle, .ref mno, .ref mtr, .ref mse, .ref mba, .int ba_, .ref mim, .int km_, .int si_, .ref msi, .ref mfo, .int fm_, .ref mor, .ref mbo, .ref mma, .ref mbm, .ref mso])), (mrc, .inl (V.2.2.1, 21, .inl (leF (updN kr i a) (updN kw i b) (updN kg i c))))]) rfl ?_
  exact g_vret X E dX11_layClock_32 () trivial rfl

set_option maxHeartbeats 4000000 in
set_option maxRecDepth 100000 in
theorem c_X11_layLesson (V : gV) (mm : Nat) (mtx : Nat) (mnu : Nat) (mrc : Nat) (mrw : Nat) (mrl : Nat) (mki : Nat) (mwa : Nat) (mle : Nat) (mno : Nat) (mtr : Nat) (mse : Nat) (mba : Nat) (mim : Nat) (msi : Nat) (mfo : Nat) (mor : Nat) (mbo : Nat) (mma : Nat) (mbm : Nat) (mso : Nat) (le_ : Int32) (po_ : Int32) (fa_ : Int32) (rcl_ : Int32) (rle_ : Int32) (cl_ : Int32) (ls_ : Int32) (ba_ : Int32) (km_ : Int32) (si_ : Int32) (fm_ : Int32) (rl0 : Nat → Nat) (rl1 : Nat → Nat) (rl2 : Nat → Nat) (i : Nat) (a : Nat) (b : Nat) (c : Nat) (hi : i < 9) : Kv V yX11_layLesson cX11_layLesson 5 ({ frames := 0, cells := 0, slots := 0, locals := 0 }) [.ref mm, .int (nI i), .int (nI a), .int (nI b), .int (nI c)] [(mm, .inr (11, [.int le_, .ref mtx, .int po_, .ref mnu, .int fa_, .int rcl_, .int rle_, .ref mrc, .ref mrw, .ref mrl, .int cl_, .ref mki, .ref mwa, .int ls_, .ref mle, .ref mno, .ref mtr, .ref mse, .ref mba, .int ba_, .ref mim, .int km_, .int si_, .ref msi, .ref mfo, .int fm_, .ref mor, .ref mbo, .ref mma, .ref mbm, .ref mso])), (mrl, .inl (V.2.2.1, 27, .inl (leF rl0 rl1 rl2)))] (fun u : Unit => True) (fun u => [(mm, .inr (11, [.int le_, .ref mtx, .int po_, .ref mnu, .int fa_, .int rcl_, .int rle_, .ref mrc, .ref mrw, .ref mrl, .int cl_, .ref mki, .ref mwa, .int ls_, .ref mle, .ref mno, .ref mtr, .ref mse, .ref mba, .int ba_, .ref mim, .int km_, .int si_, .ref msi, .ref mfo, .int fm_, .ref mor, .ref mbo, .ref mma, .ref mbm, .ref mso])), (mrl, .inl (V.2.2.1, 27, .inl (leF (updN rl0 i a) (updN rl1 i b) (updN rl2 i c))))]) := by
  refine Kv.of [some (.ref mm), some (.int (nI i)), some (.int (nI a)), some (.int (nI b)), some (.int (nI c))] (by decide) (Nat.le_of_ble_eq_true rfl) rfl rfl ?_
  intro Z X E
  have X : gX V Z RX11 cX11_layLesson 5 ({ frames := 0, cells := 0, slots := 0, locals := 0 }) := X
  refine g_aload_n X dX11_layLesson_0 rfl ?_
  refine g_get X uwX11 0 rfl rfl 9 (by decide) kl_X11_22 rfl rfl gwX11 dX11_layLesson_1 ?_
  refine g_iconst X (3) dX11_layLesson_4 (by decide) ?_
  refine g_iload_n X dX11_layLesson_5 rfl ?_
  refine g_imul X dX11_layLesson_6 ?_
  refine g_toe (x' := nI (3 * i)) (nI_mul' rfl rfl) ?_
  refine g_iload_n X dX11_layLesson_7 rfl ?_
  refine g_iast' X 1 rfl (i := (3 * i)) rfl (by omega) (by omega) (ws' := [(mm, .inr (11, [.int le_, .ref mtx, .int po_, .ref mnu, .int fa_, .int rcl_, .int rle_, .ref mrc, .ref mrw, .ref mrl, .int cl_, .ref mki, .ref mwa, .int ls_, .ref mle, .ref mno, .ref mtr, .ref mse, .ref mba, .int ba_, .ref mim, .int km_, .int si_, .ref msi, .ref mfo, .int fm_, .ref mor, .ref mbo, .ref mma, .ref mbm, .ref mso])), (mrl, .inl (V.2.2.1, 27, .inl (upd (leF rl0 rl1 rl2) (3 * i) (nI a))))]) rfl dX11_layLesson_8 ?_
  refine g_arr 1 (leF (updN rl0 i a) rl1 rl2) rfl (leF_u0 _ _ _ i a 27) (ws' := [(mm, .inr (11, [.int le_, .ref mtx, .int po_, .ref mnu, .int fa_, .int rcl_, .int rle_, .ref mrc, .ref mrw, .ref mrl, .int cl_, .ref mki, .ref mwa, .int ls_, .ref mle, .ref mno, .ref mtr, .ref mse, .ref mba, .int ba_, .ref mim, .int km_, .int si_, .ref msi, .ref mfo, .int fm_, .ref mor, .ref mbo, .ref mma, .ref mbm, .ref mso])), (mrl, .inl (V.2.2.1, 27, .inl (leF (updN rl0 i a) rl1 rl2)))]) rfl ?_
  refine g_aload_n X dX11_layLesson_9 rfl ?_
  refine g_get X uwX11 0 rfl rfl 9 (by decide) kl_X11_22 rfl rfl gwX11 dX11_layLesson_10 ?_
  refine g_iconst X (3) dX11_layLesson_13 (by decide) ?_
  refine g_iload_n X dX11_layLesson_14 rfl ?_
  refine g_imul X dX11_layLesson_15 ?_
  refine g_toe (x' := nI (3 * i)) (nI_mul' rfl rfl) ?_
  refine g_iconst X (1) dX11_layLesson_16 (by decide) ?_
  refine g_iadd X dX11_layLesson_17 ?_
  refine g_toe (x' := nI (3 * i + 1)) (nI_add' rfl rfl) ?_
  refine g_iload_n X dX11_layLesson_18 rfl ?_
  refine g_iast' X 1 rfl (i := (3 * i + 1)) rfl (by omega) (by omega) (ws' := [(mm, .inr (11, [.int le_, .ref mtx, .int po_, .ref mnu, .int fa_, .int rcl_, .int rle_, .ref mrc, .ref mrw, .ref mrl, .int cl_, .ref mki, .ref mwa, .int ls_, .ref mle, .ref mno, .ref mtr, .ref mse, .ref mba, .int ba_, .ref mim, .int km_, .int si_, .ref msi, .ref mfo, .int fm_, .ref mor, .ref mbo, .ref mma, .ref mbm, .ref mso])), (mrl, .inl (V.2.2.1, 27, .inl (upd (leF (updN rl0 i a) rl1 rl2) (3 * i + 1) (nI b))))]) rfl dX11_layLesson_19 ?_
  refine g_arr 1 (leF (updN rl0 i a) (updN rl1 i b) rl2) rfl (leF_u1 _ _ _ i b 27) (ws' := [(mm, .inr (11, [.int le_, .ref mtx, .int po_, .ref mnu, .int fa_, .int rcl_, .int rle_, .ref mrc, .ref mrw, .ref mrl, .int cl_, .ref mki, .ref mwa, .int ls_, .ref mle, .ref mno, .ref mtr, .ref mse, .ref mba, .int ba_, .ref mim, .int km_, .int si_, .ref msi, .ref mfo, .int fm_, .ref mor, .ref mbo, .ref mma, .ref mbm, .ref mso])), (mrl, .inl (V.2.2.1, 27, .inl (leF (updN rl0 i a) (updN rl1 i b) rl2)))]) rfl ?_
  refine g_aload_n X dX11_layLesson_20 rfl ?_
  refine g_get X uwX11 0 rfl rfl 9 (by decide) kl_X11_22 rfl rfl gwX11 dX11_layLesson_21 ?_
  refine g_iconst X (3) dX11_layLesson_24 (by decide) ?_
  refine g_iload_n X dX11_layLesson_25 rfl ?_
  refine g_imul X dX11_layLesson_26 ?_
  refine g_toe (x' := nI (3 * i)) (nI_mul' rfl rfl) ?_
  refine g_iconst X (2) dX11_layLesson_27 (by decide) ?_
  refine g_iadd X dX11_layLesson_28 ?_
  refine g_toe (x' := nI (3 * i + 2)) (nI_add' rfl rfl) ?_
  refine g_iload X dX11_layLesson_29 rfl ?_
  refine g_iast' X 1 rfl (i := (3 * i + 2)) rfl (by omega) (by omega) (ws' := [(mm, .inr (11, [.int le_, .ref mtx, .int po_, .ref mnu, .int fa_, .int rcl_, .int rle_, .ref mrc, .ref mrw, .ref mrl, .int cl_, .ref mki, .ref mwa, .int ls_, .ref mle, .ref mno, .ref mtr, .ref mse, .ref mba, .int ba_, .ref mim, .int km_, .int si_, .ref msi, .ref mfo, .int fm_, .ref mor, .ref mbo, .ref mma, .ref mbm, .ref mso])), (mrl, .inl (V.2.2.1, 27, .inl (upd (leF (updN rl0 i a) (updN rl1 i b) rl2) (3 * i + 2) (nI c))))]) rfl dX11_layLesson_31 ?_
  refine g_arr 1 (leF (updN rl0 i a) (updN rl1 i b) (updN rl2 i c)) rfl (leF_u2 _ _ _ i c 27) (ws' := [(mm, .inr (11, [.int le_, .ref mtx, .int po_, .ref mnu, .int fa_, .int rcl_, .int rle_, .ref mrc, .ref mrw, .ref mrl, .int cl_, .ref mki, .ref mwa, .int ls_, .ref mle, .ref mno, .ref mtr, .ref mse, .ref mba, .int ba_, .ref mim, .int km_, .int si_, .ref msi, .ref mfo, .int fm_, .ref mor, .ref mbo, .ref mma, .ref mbm, .ref mso])), (mrl, .inl (V.2.2.1, 27, .inl (leF (updN rl0 i a) (updN rl1 i b) (updN rl2 i c))))]) rfl ?_
  exact g_vret X E dX11_layLesson_32 () trivial rfl

set_option maxHeartbeats 4000000 in
set_option maxRecDepth 100000 in
theorem c_X11_layWall (V : gV) (mm : Nat) (mtx : Nat) (mnu : Nat) (mrc : Nat) (mrw : Nat) (mrl : Nat) (mki : Nat) (mwa : Nat) (mle : Nat) (mno : Nat) (mtr : Nat) (mse : Nat) (mba : Nat) (mim : Nat) (msi : Nat) (mfo : Nat) (mor : Nat) (mbo : Nat) (mma : Nat) (mbm : Nat) (mso : Nat) (le_ : Int32) (po_ : Int32) (fa_ : Int32) (rcl_ : Int32) (rle_ : Int32) (cl_ : Int32) (ls_ : Int32) (ba_ : Int32) (km_ : Int32) (si_ : Int32) (fm_ : Int32) (rwb : Nat → Int32) (a : Nat) (b : Nat) (ha : a < 7) (hb : b < 7) : Kv V yX11_layWall cX11_layWall 3 ({ frames := 0, cells := 0, slots := 0, locals := 0 }) [.ref mm, .int (nI a), .int (nI b)] [(mm, .inr (11, [.int le_, .ref mtx, .int po_, .ref mnu, .int fa_, .int rcl_, .int rle_, .ref mrc, .ref mrw, .ref mrl, .int cl_, .ref mki, .ref mwa, .int ls_, .ref mle, .ref mno, .ref mtr, .ref mse, .ref mba, .int ba_, .ref mim, .int km_, .int si_, .ref msi, .ref mfo, .int fm_, .ref mor, .ref mbo, .ref mma, .ref mbm, .ref mso])), (mrw, .inl (V.2.2.1, 7, .inl rwb))] (fun u : (Nat → Int32) => u = wallM rwb a b) (fun u => [(mm, .inr (11, [.int le_, .ref mtx, .int po_, .ref mnu, .int fa_, .int rcl_, .int rle_, .ref mrc, .ref mrw, .ref mrl, .int cl_, .ref mki, .ref mwa, .int ls_, .ref mle, .ref mno, .ref mtr, .ref mse, .ref mba, .int ba_, .ref mim, .int km_, .int si_, .ref msi, .ref mfo, .int fm_, .ref mor, .ref mbo, .ref mma, .ref mbm, .ref mso])), (mrw, .inl (V.2.2.1, 7, .inl u))]) := by
  refine Kv.of [some (.ref mm), some (.int (nI a)), some (.int (nI b))] (by decide) (Nat.le_of_ble_eq_true rfl) rfl rfl ?_
  intro Z X E
  have X : gX V Z RX11 cX11_layWall 3 ({ frames := 0, cells := 0, slots := 0, locals := 0 }) := X
  refine g_aload_n X dX11_layWall_0 rfl ?_
  refine g_get X uwX11 0 rfl rfl 8 (by decide) kl_X11_19 rfl rfl gwX11 dX11_layWall_1 ?_
  refine g_iload_n X dX11_layWall_4 rfl ?_
  refine g_aload_n X dX11_layWall_5 rfl ?_
  refine g_get X uwX11 0 rfl rfl 8 (by decide) kl_X11_19 rfl rfl gwX11 dX11_layWall_6 ?_
  refine g_iload_n X dX11_layWall_9 rfl ?_
  refine g_iald' X 1 rfl (i := a) rfl (by omega) (by omega) dX11_layWall_10 ?_
  refine g_iconst X (1) dX11_layWall_11 (by decide) ?_
  refine g_iload_n X dX11_layWall_12 rfl ?_
  refine g_ishl X dX11_layWall_13 ?_
  refine g_ior X dX11_layWall_14 ?_
  refine g_iast' X 1 rfl (i := a) rfl (by omega) (by omega) (ws' := [(mm, .inr (11, [.int le_, .ref mtx, .int po_, .ref mnu, .int fa_, .int rcl_, .int rle_, .ref mrc, .ref mrw, .ref mrl, .int cl_, .ref mki, .ref mwa, .int ls_, .ref mle, .ref mno, .ref mtr, .ref mse, .ref mba, .int ba_, .ref mim, .int km_, .int si_, .ref msi, .ref mfo, .int fm_, .ref mor, .ref mbo, .ref mma, .ref mbm, .ref mso])), (mrw, .inl (V.2.2.1, 7, .inl (upd rwb a ((rwb a) ||| (1 <<< ((nI b) &&& 31))))))]) rfl dX11_layWall_15 ?_
  refine g_aload_n X dX11_layWall_16 rfl ?_
  refine g_get X uwX11 0 rfl rfl 8 (by decide) kl_X11_19 rfl rfl gwX11 dX11_layWall_17 ?_
  refine g_iload_n X dX11_layWall_20 rfl ?_
  refine g_aload_n X dX11_layWall_21 rfl ?_
  refine g_get X uwX11 0 rfl rfl 8 (by decide) kl_X11_19 rfl rfl gwX11 dX11_layWall_22 ?_
  refine g_iload_n X dX11_layWall_25 rfl ?_
  refine g_iald' X 1 rfl (i := b) rfl (by omega) (by omega) dX11_layWall_26 ?_
  refine g_iconst X (1) dX11_layWall_27 (by decide) ?_
  refine g_iload_n X dX11_layWall_28 rfl ?_
  refine g_ishl X dX11_layWall_29 ?_
  refine g_ior X dX11_layWall_30 ?_
  refine g_iast' X 1 rfl (i := b) rfl (by omega) (by omega) (ws' := [(mm, .inr (11, [.int le_, .ref mtx, .int po_, .ref mnu, .int fa_, .int rcl_, .int rle_, .ref mrc, .ref mrw, .ref mrl, .int cl_, .ref mki, .ref mwa, .int ls_, .ref mle, .ref mno, .ref mtr, .ref mse, .ref mba, .int ba_, .ref mim, .int km_, .int si_, .ref msi, .ref mfo, .int fm_, .ref mor, .ref mbo, .ref mma, .ref mbm, .ref mso])), (mrw, .inl (V.2.2.1, 7, .inl (upd (upd rwb a ((rwb a) ||| (1 <<< ((nI b) &&& 31)))) b (((upd rwb a ((rwb a) ||| (1 <<< ((nI b) &&& 31)))) b) ||| (1 <<< ((nI a) &&& 31))))))]) rfl dX11_layWall_31 ?_
  exact g_vret X E dX11_layWall_32 (upd (upd rwb a ((rwb a) ||| (1 <<< ((nI b) &&& 31)))) b (((upd rwb a ((rwb a) ||| (1 <<< ((nI b) &&& 31)))) b) ||| (1 <<< ((nI a) &&& 31)))) (by first | rfl | (simp []; done)) rfl

set_option maxHeartbeats 4000000 in
set_option maxRecDepth 100000 in
theorem c_X11_isItem_yes (V : gV) (mm : Nat) (mtx : Nat) (mnu : Nat) (mrc : Nat) (mrw : Nat) (mrl : Nat) (mki : Nat) (mwa : Nat) (mle : Nat) (mno : Nat) (mtr : Nat) (mse : Nat) (mba : Nat) (mim : Nat) (msi : Nat) (mfo : Nat) (mor : Nat) (mbo : Nat) (mma : Nat) (mbm : Nat) (mso : Nat) (x : Nat) (p : Nat) (fa_ : Int32) (rn : Nat) (rm_ : Nat) (cl_ : Int32) (ls_ : Int32) (ba_ : Int32) (km_ : Int32) (si_ : Int32) (fm_ : Int32) (tf : Nat → Nat) (nuf : Nat → Nat) (kr : Nat → Nat) (kw : Nat → Nat) (kg : Nat → Nat) (rwb : Nat → Int32) (rl0 : Nat → Nat) (rl1 : Nat → Nat) (rl2 : Nat → Nat) (q : Nat) (hx : x ≤ 200) (hl : ∀ j, j < x → tf j < 1000) (hpx : p < x) (hn : rn ≤ 7) (hm : rm_ ≤ 9) (hnu0 : ∀ j, j < 3 → nuf j < 1000) (hq : (rdN tf (x - (p + 1)) (p + 1) 0 0 0 nuf).1 = some q) (hok : itemOK (tf p) (rdN tf (x - (p + 1)) (p + 1) 0 0 0 nuf).2.1 (rdN tf (x - (p + 1)) (p + 1) 0 0 0 nuf).2.2 rn rm_) : Ki V yX11_isItem cX11_isItem 2 .boolean ({ frames := 2, cells := 0, slots := 0, locals := 46 }) [.ref mm] [(mm, .inr (11, [.int (nI x), .ref mtx, .int (nI p), .ref mnu, .int fa_, .int (nI rn), .int (nI rm_), .ref mrc, .ref mrw, .ref mrl, .int cl_, .ref mki, .ref mwa, .int ls_, .ref mle, .ref mno, .ref mtr, .ref mse, .ref mba, .int ba_, .ref mim, .int km_, .int si_, .ref msi, .ref mfo, .int fm_, .ref mor, .ref mbo, .ref mma, .ref mbm, .ref mso])), (mtx, .inl (V.2.2.1, 200, .inl (nIf tf))), (mnu, .inl (V.2.2.1, 3, .inl (nIf nuf))), (mrc, .inl (V.2.2.1, 21, .inl (leF kr kw kg))), (mrw, .inl (V.2.2.1, 7, .inl rwb)), (mrl, .inl (V.2.2.1, 27, .inl (leF rl0 rl1 rl2)))] (fun (r : Int32) (u : Nat × (Nat → Nat) × Nat × Nat × (Nat → Nat) × (Nat → Nat) × (Nat → Nat) × (Nat → Int32) × (Nat → Nat) × (Nat → Nat) × (Nat → Nat)) => r = 1 ∧ u.1 = q ∧ u.2.1 = (rdN tf (x - (p + 1)) (p + 1) 0 0 0 nuf).2.2 ∧ (u.2.2.1, u.2.2.2.1, u.2.2.2.2.1, u.2.2.2.2.2.1, u.2.2.2.2.2.2.1, u.2.2.2.2.2.2.2.1, u.2.2.2.2.2.2.2.2.1, u.2.2.2.2.2.2.2.2.2.1, u.2.2.2.2.2.2.2.2.2.2) = itemM (tf p) (rdN tf (x - (p + 1)) (p + 1) 0 0 0 nuf).2.2 (rn, rm_, kr, kw, kg, rwb, rl0, rl1, rl2)) (fun u => [(mm, .inr (11, [.int (nI x), .ref mtx, .int (nI u.1), .ref mnu, .int fa_, .int (nI u.2.2.1), .int (nI u.2.2.2.1), .ref mrc, .ref mrw, .ref mrl, .int cl_, .ref mki, .ref mwa, .int ls_, .ref mle, .ref mno, .ref mtr, .ref mse, .ref mba, .int ba_, .ref mim, .int km_, .int si_, .ref msi, .ref mfo, .int fm_, .ref mor, .ref mbo, .ref mma, .ref mbm, .ref mso])), (mtx, .inl (V.2.2.1, 200, .inl (nIf tf))), (mnu, .inl (V.2.2.1, 3, .inl (nIf u.2.1))), (mrc, .inl (V.2.2.1, 21, .inl (leF u.2.2.2.2.1 u.2.2.2.2.2.1 u.2.2.2.2.2.2.1))), (mrw, .inl (V.2.2.1, 7, .inl u.2.2.2.2.2.2.2.1)), (mrl, .inl (V.2.2.1, 27, .inl (leF u.2.2.2.2.2.2.2.2.1 u.2.2.2.2.2.2.2.2.2.1 u.2.2.2.2.2.2.2.2.2.2)))]) := by
  refine Ki.of [some (.ref mm), none] (by decide) (Nat.le_of_ble_eq_true rfl) rfl rfl ?_
  intro Z X E
  have X : gX V Z RX11 cX11_isItem 2 ({ frames := 2, cells := 0, slots := 0, locals := 46 }) := X
  have hk := hok
  unfold itemOK at hk
  have hlp := hl p hpx
  refine g_aload_n X dX11_isItem_0 rfl ?_
  refine g_aload_n X dX11_isItem_1 rfl ?_
  refine g_get X uwX11 0 rfl rfl 2 (by decide) kl_X11_101 rfl rfl gwX11 dX11_isItem_2 ?_
  refine g_callVi X (c_X11_letterAt_in V mm mtx mnu mrc mrw mrl mki mwa mle mno mtr mse mba mim msi mfo mor mbo mma mbm mso x (nI p) fa_ (nI rn) (nI rm_) cl_ ls_ ba_ km_ si_ fm_ tf p (by omega) hpx) mo_X11_letterAt kl_X11_104 [0, 1] [1, 2, 0, 0, 0, 0] rfl (by decide +kernel) rfl rfl (fun _ => Nat.le_of_ble_eq_true rfl) 0 11 rfl rfl (As := [.int (nI p)]) (st := []) (cs' := (0, 0)) rfl rfl rfl rfl dX11_isItem_5 (fun r_5 u_1 hp_2 ws_4 hw_3 => ?_)
  obtain rfl : r_5 = nI (tf p) := hp_2
  have hw_3x : ws_4 = [(mm, .inr (11, [.int (nI x), .ref mtx, .int (nI p), .ref mnu, .int fa_, .int (nI rn), .int (nI rm_), .ref mrc, .ref mrw, .ref mrl, .int cl_, .ref mki, .ref mwa, .int ls_, .ref mle, .ref mno, .ref mtr, .ref mse, .ref mba, .int ba_, .ref mim, .int km_, .int si_, .ref msi, .ref mfo, .int fm_, .ref mor, .ref mbo, .ref mma, .ref mbm, .ref mso])), (mtx, .inl (V.2.2.1, 200, .inl (nIf tf))), (mnu, .inl (V.2.2.1, 3, .inl (nIf nuf))), (mrc, .inl (V.2.2.1, 21, .inl (leF kr kw kg))), (mrw, .inl (V.2.2.1, 7, .inl rwb)), (mrl, .inl (V.2.2.1, 27, .inl (leF rl0 rl1 rl2)))] := hw_3.symm
  clear hw_3; subst hw_3x
  refine g_istore_n X (L' := [some (.ref mm), some (.int (nI (tf p)))]) dX11_isItem_8 (by decide) rfl rfl ?_
  refine g_aload_n X dX11_isItem_9 rfl ?_
  refine g_dup X dX11_isItem_10 rfl ?_
  refine g_get X uwX11 0 rfl rfl 2 (by decide) kl_X11_101 rfl rfl gwX11 dX11_isItem_11 ?_
  refine g_iconst X (1) dX11_isItem_14 (by decide) ?_
  refine g_iadd X dX11_isItem_15 ?_
  refine g_toe (x' := nI (p + 1)) (nI_add' rfl rfl) ?_
  refine g_put X uwX11 tyX11 tyX11_ok nmX11 0 rfl rfl 2 (by decide) kl_X11_101 rfl rfl rfl rfl (Nat.le_of_ble_eq_true rfl) gwX11 (ws' := [(mm, .inr (11, [.int (nI x), .ref mtx, .int (nI (p + 1)), .ref mnu, .int fa_, .int (nI rn), .int (nI rm_), .ref mrc, .ref mrw, .ref mrl, .int cl_, .ref mki, .ref mwa, .int ls_, .ref mle, .ref mno, .ref mtr, .ref mse, .ref mba, .int ba_, .ref mim, .int km_, .int si_, .ref msi, .ref mfo, .int fm_, .ref mor, .ref mbo, .ref mma, .ref mbm, .ref mso])), (mtx, .inl (V.2.2.1, 200, .inl (nIf tf))), (mnu, .inl (V.2.2.1, 3, .inl (nIf nuf))), (mrc, .inl (V.2.2.1, 21, .inl (leF kr kw kg))), (mrw, .inl (V.2.2.1, 7, .inl rwb)), (mrl, .inl (V.2.2.1, 27, .inl (leF rl0 rl1 rl2)))]) rfl dX11_isItem_16 ?_
  by_cases hl99 : tf p = 99
  · refine g_iload_n X dX11_isItem_19 rfl ?_
    refine g_bipush X (99) dX11_isItem_20 (by decide) ?_
    refine g_icmp_ne X 125 dX11_isItem_22 (by decide) (fun c22_6 => absurd (teq (a := tf p) (b := 99) (by omega) (by omega) (by omega)) c22_6) (fun c22_6 => ?_)
    refine g_aload_n X dX11_isItem_25 rfl ?_
    refine g_get X uwX11 0 rfl rfl 5 (by decide) kl_X11_74 rfl rfl gwX11 dX11_isItem_26 ?_
    refine g_bipush X (7) dX11_isItem_29 (by decide) ?_
    refine g_icmp_eq X 75 dX11_isItem_31 (by decide) (fun c31_7 => absurd c31_7 (feq (a := rn) (b := 7) (by omega) (by omega) (by omega))) (fun c31_7 => ?_)
    refine g_aload_n X dX11_isItem_34 rfl ?_
    refine g_iconst X (3) dX11_isItem_35 (by decide) ?_
    refine g_callVi X (c_X11_isRow V mm mtx mnu mrc mrw mrl mki mwa mle mno mtr mse mba mim msi mfo mor mbo mma mbm mso x (p + 1) fa_ (nI rn) (nI rm_) cl_ ls_ ba_ km_ si_ fm_ tf nuf 3 (by omega) (by omega) (by omega) (by omega) (by omega)) mo_X11_isRow kl_X11_108 [0, 1, 2] [1, 2, 3, 0, 0, 0] rfl (by decide +kernel) rfl rfl (fun _ => Nat.le_of_ble_eq_true rfl) 0 11 rfl rfl (As := [.int 3]) (st := []) (cs' := (0, 0)) rfl rfl rfl rfl dX11_isItem_36 (fun r_12 u_8 hp_9 ws_11 hw_10 => ?_)
    obtain ⟨np_13, nnu_14⟩ := u_8
    obtain ⟨rfl, hrow_15, hnn_16⟩ : r_12 = rowB (rdN tf (x - (p + 1)) (p + 1) 0 0 0 nuf) 3 ∧ (rowB (rdN tf (x - (p + 1)) (p + 1) 0 0 0 nuf) 3 = 1 → rdN tf (x - (p + 1)) (p + 1) 0 0 0 nuf = (some np_13, 3, nnu_14)) ∧ (∀ j, j < 3 → nnu_14 j < 1000) := hp_9
    have hw_10x : ws_11 = [(mm, .inr (11, [.int (nI x), .ref mtx, .int (nI np_13), .ref mnu, .int fa_, .int (nI rn), .int (nI rm_), .ref mrc, .ref mrw, .ref mrl, .int cl_, .ref mki, .ref mwa, .int ls_, .ref mle, .ref mno, .ref mtr, .ref mse, .ref mba, .int ba_, .ref mim, .int km_, .int si_, .ref msi, .ref mfo, .int fm_, .ref mor, .ref mbo, .ref mma, .ref mbm, .ref mso])), (mtx, .inl (V.2.2.1, 200, .inl (nIf tf))), (mnu, .inl (V.2.2.1, 3, .inl (nIf nnu_14))), (mrc, .inl (V.2.2.1, 21, .inl (leF kr kw kg))), (mrw, .inl (V.2.2.1, 7, .inl rwb)), (mrl, .inl (V.2.2.1, 27, .inl (leF rl0 rl1 rl2)))] := hw_10.symm
    clear hw_10; subst hw_10x
    have hR := hrow_15 (rowB_1 hq (by omega))
    refine g_if_eq X 75 dX11_isItem_39 (by decide) (fun c39_17 => absurd c39_17 (by rw [rowB_1 hq (by omega)]; decide)) (fun c39_17 => ?_)
    rw [hR] at hk
    dsimp only at hk
    have hb0 := hnn_16 0 (by omega)
    have hb1 := hnn_16 1 (by omega)
    have hb2 := hnn_16 2 (by omega)
    refine g_aload_n X dX11_isItem_42 rfl ?_
    refine g_get X uwX11 0 rfl rfl 3 (by decide) kl_X11_13 rfl rfl gwX11 dX11_isItem_43 ?_
    refine g_iconst X (0) dX11_isItem_46 (by decide) ?_
    refine g_iald' X 2 rfl (i := 0) rfl (by omega) (by omega) dX11_isItem_47 ?_
    refine g_toe (nI (nnu_14 0)) rfl ?_
    refine g_iconst X (4) dX11_isItem_48 (by decide) ?_
    refine g_icmp_gt X 75 dX11_isItem_49 (by decide) (fun c49_18 => absurd c49_18 (fgt (a := nnu_14 0) (b := 4) (by omega) (by omega) (by omega))) (fun c49_18 => ?_)
    refine g_aload_n X dX11_isItem_52 rfl ?_
    refine g_get X uwX11 0 rfl rfl 3 (by decide) kl_X11_13 rfl rfl gwX11 dX11_isItem_53 ?_
    refine g_iconst X (1) dX11_isItem_56 (by decide) ?_
    refine g_iald' X 2 rfl (i := 1) rfl (by omega) (by omega) dX11_isItem_57 ?_
    refine g_toe (nI (nnu_14 1)) rfl ?_
    refine g_sipush X (200) dX11_isItem_58 (by decide) ?_
    refine g_icmp_gt X 75 dX11_isItem_61 (by decide) (fun c61_19 => absurd c61_19 (fgt (a := nnu_14 1) (b := 200) (by omega) (by omega) (by omega))) (fun c61_19 => ?_)
    refine g_aload_n X dX11_isItem_64 rfl ?_
    refine g_get X uwX11 0 rfl rfl 3 (by decide) kl_X11_13 rfl rfl gwX11 dX11_isItem_65 ?_
    refine g_iconst X (2) dX11_isItem_68 (by decide) ?_
    refine g_iald' X 2 rfl (i := 2) rfl (by omega) (by omega) dX11_isItem_69 ?_
    refine g_toe (nI (nnu_14 2)) rfl ?_
    refine g_bipush X (20) dX11_isItem_70 (by decide) ?_
    refine g_icmp_le X 77 dX11_isItem_72 (by decide) (fun c72_20 => ?_) (fun c72_20 => absurd (tle (a := nnu_14 2) (b := 20) (by omega) (by omega) (by omega)) c72_20)
    refine g_aload_n X dX11_isItem_77 rfl ?_
    refine g_aload_n X dX11_isItem_78 rfl ?_
    refine g_get X uwX11 0 rfl rfl 5 (by decide) kl_X11_74 rfl rfl gwX11 dX11_isItem_79 ?_
    refine g_aload_n X dX11_isItem_82 rfl ?_
    refine g_get X uwX11 0 rfl rfl 3 (by decide) kl_X11_13 rfl rfl gwX11 dX11_isItem_83 ?_
    refine g_iconst X (0) dX11_isItem_86 (by decide) ?_
    refine g_iald' X 2 rfl (i := 0) rfl (by omega) (by omega) dX11_isItem_87 ?_
    refine g_toe (nI (nnu_14 0)) rfl ?_
    refine g_aload_n X dX11_isItem_88 rfl ?_
    refine g_get X uwX11 0 rfl rfl 3 (by decide) kl_X11_13 rfl rfl gwX11 dX11_isItem_89 ?_
    refine g_iconst X (1) dX11_isItem_92 (by decide) ?_
    refine g_iald' X 2 rfl (i := 1) rfl (by omega) (by omega) dX11_isItem_93 ?_
    refine g_toe (nI (nnu_14 1)) rfl ?_
    refine g_aload_n X dX11_isItem_94 rfl ?_
    refine g_get X uwX11 0 rfl rfl 3 (by decide) kl_X11_13 rfl rfl gwX11 dX11_isItem_95 ?_
    refine g_iconst X (2) dX11_isItem_98 (by decide) ?_
    refine g_iald' X 2 rfl (i := 2) rfl (by omega) (by omega) dX11_isItem_99 ?_
    refine g_toe (nI (nnu_14 2)) rfl ?_
    refine g_callVv X (c_X11_layClock V mm mtx mnu mrc mrw mrl mki mwa mle mno mtr mse mba mim msi mfo mor mbo mma mbm mso (nI x) (nI np_13) fa_ (nI rn) (nI rm_) cl_ ls_ ba_ km_ si_ fm_ kr kw kg rn (nnu_14 0) (nnu_14 1) (nnu_14 2) (by omega)) mo_X11_layClock kl_X11_70 [0, 3] [1, 0, 0, 2, 0, 0] rfl (by decide +kernel) rfl rfl (fun _ => Nat.le_of_ble_eq_true rfl) 0 11 rfl rfl (As := [.int (nI rn), .int (nI (nnu_14 0)), .int (nI (nnu_14 1)), .int (nI (nnu_14 2))]) (st := []) (cs' := (0, 0)) rfl rfl rfl rfl dX11_isItem_100 (fun u_21 hp_22 ws_24 hw_23 => ?_)
    have hw_23x : ws_24 = [(mm, .inr (11, [.int (nI x), .ref mtx, .int (nI np_13), .ref mnu, .int fa_, .int (nI rn), .int (nI rm_), .ref mrc, .ref mrw, .ref mrl, .int cl_, .ref mki, .ref mwa, .int ls_, .ref mle, .ref mno, .ref mtr, .ref mse, .ref mba, .int ba_, .ref mim, .int km_, .int si_, .ref msi, .ref mfo, .int fm_, .ref mor, .ref mbo, .ref mma, .ref mbm, .ref mso])), (mtx, .inl (V.2.2.1, 200, .inl (nIf tf))), (mnu, .inl (V.2.2.1, 3, .inl (nIf nnu_14))), (mrc, .inl (V.2.2.1, 21, .inl (leF (updN kr rn (nnu_14 0)) (updN kw rn (nnu_14 1)) (updN kg rn (nnu_14 2))))), (mrw, .inl (V.2.2.1, 7, .inl rwb)), (mrl, .inl (V.2.2.1, 27, .inl (leF rl0 rl1 rl2)))] := hw_23.symm
    clear hw_23; subst hw_23x
    refine g_aload_n X dX11_isItem_103 rfl ?_
    refine g_get X uwX11 0 rfl rfl 8 (by decide) kl_X11_19 rfl rfl gwX11 dX11_isItem_104 ?_
    refine g_aload_n X dX11_isItem_107 rfl ?_
    refine g_get X uwX11 0 rfl rfl 5 (by decide) kl_X11_74 rfl rfl gwX11 dX11_isItem_108 ?_
    refine g_iconst X (0) dX11_isItem_111 (by decide) ?_
    refine g_iast' X 4 rfl (i := rn) rfl (by omega) (by omega) (ws' := [(mm, .inr (11, [.int (nI x), .ref mtx, .int (nI np_13), .ref mnu, .int fa_, .int (nI rn), .int (nI rm_), .ref mrc, .ref mrw, .ref mrl, .int cl_, .ref mki, .ref mwa, .int ls_, .ref mle, .ref mno, .ref mtr, .ref mse, .ref mba, .int ba_, .ref mim, .int km_, .int si_, .ref msi, .ref mfo, .int fm_, .ref mor, .ref mbo, .ref mma, .ref mbm, .ref mso])), (mtx, .inl (V.2.2.1, 200, .inl (nIf tf))), (mnu, .inl (V.2.2.1, 3, .inl (nIf nnu_14))), (mrc, .inl (V.2.2.1, 21, .inl (leF (updN kr rn (nnu_14 0)) (updN kw rn (nnu_14 1)) (updN kg rn (nnu_14 2))))), (mrw, .inl (V.2.2.1, 7, .inl (upd rwb rn 0))), (mrl, .inl (V.2.2.1, 27, .inl (leF rl0 rl1 rl2)))]) rfl dX11_isItem_112 ?_
    refine g_aload_n X dX11_isItem_113 rfl ?_
    refine g_dup X dX11_isItem_114 rfl ?_
    refine g_get X uwX11 0 rfl rfl 5 (by decide) kl_X11_74 rfl rfl gwX11 dX11_isItem_115 ?_
    refine g_iconst X (1) dX11_isItem_118 (by decide) ?_
    refine g_iadd X dX11_isItem_119 ?_
    refine g_toe (x' := nI (rn + 1)) (nI_add' rfl rfl) ?_
    refine g_put X uwX11 tyX11 tyX11_ok nmX11 0 rfl rfl 5 (by decide) kl_X11_74 rfl rfl rfl rfl (Nat.le_of_ble_eq_true rfl) gwX11 (ws' := [(mm, .inr (11, [.int (nI x), .ref mtx, .int (nI np_13), .ref mnu, .int fa_, .int (nI (rn + 1)), .int (nI rm_), .ref mrc, .ref mrw, .ref mrl, .int cl_, .ref mki, .ref mwa, .int ls_, .ref mle, .ref mno, .ref mtr, .ref mse, .ref mba, .int ba_, .ref mim, .int km_, .int si_, .ref msi, .ref mfo, .int fm_, .ref mor, .ref mbo, .ref mma, .ref mbm, .ref mso])), (mtx, .inl (V.2.2.1, 200, .inl (nIf tf))), (mnu, .inl (V.2.2.1, 3, .inl (nIf nnu_14))), (mrc, .inl (V.2.2.1, 21, .inl (leF (updN kr rn (nnu_14 0)) (updN kw rn (nnu_14 1)) (updN kg rn (nnu_14 2))))), (mrw, .inl (V.2.2.1, 7, .inl (upd rwb rn 0))), (mrl, .inl (V.2.2.1, 27, .inl (leF rl0 rl1 rl2)))]) rfl dX11_isItem_120 ?_
    refine g_iconst X (1) dX11_isItem_123 (by decide) ?_
    exact g_zret X E dX11_isItem_124 ⟨np_13, nnu_14, rn + 1, rm_, updN kr rn (nnu_14 0), updN kw rn (nnu_14 1), updN kg rn (nnu_14 2), upd rwb rn 0, rl0, rl1, rl2⟩ 1 rfl ⟨rfl, (by rw [hR] at hq; exact Option.some.inj hq), (by rw [hR]), (by rw [hR, itemM, if_pos hl99])⟩ rfl
  · refine g_iload_n X dX11_isItem_19 rfl ?_
    refine g_bipush X (99) dX11_isItem_20 (by decide) ?_
    refine g_icmp_ne X 125 dX11_isItem_22 (by decide) (fun c22_26 => ?_) (fun c22_26 => absurd c22_26 (tne (a := tf p) (b := 99) (by omega) (by omega) (by omega)))
    by_cases hl119 : tf p = 119
    · refine g_iload_n X dX11_isItem_125 rfl ?_
      refine g_bipush X (119) dX11_isItem_126 (by decide) ?_
      refine g_icmp_ne X 200 dX11_isItem_128 (by decide) (fun c128_27 => absurd (teq (a := tf p) (b := 119) (by omega) (by omega) (by omega)) c128_27) (fun c128_27 => ?_)
      refine g_aload_n X dX11_isItem_131 rfl ?_
      refine g_iconst X (2) dX11_isItem_132 (by decide) ?_
      refine g_callVi X (c_X11_isRow V mm mtx mnu mrc mrw mrl mki mwa mle mno mtr mse mba mim msi mfo mor mbo mma mbm mso x (p + 1) fa_ (nI rn) (nI rm_) cl_ ls_ ba_ km_ si_ fm_ tf nuf 2 (by omega) (by omega) (by omega) (by omega) (by omega)) mo_X11_isRow kl_X11_108 [0, 1, 2] [1, 2, 3, 0, 0, 0] rfl (by decide +kernel) rfl rfl (fun _ => Nat.le_of_ble_eq_true rfl) 0 11 rfl rfl (As := [.int 2]) (st := []) (cs' := (0, 0)) rfl rfl rfl rfl dX11_isItem_133 (fun r_32 u_28 hp_29 ws_31 hw_30 => ?_)
      obtain ⟨np_33, nnu_34⟩ := u_28
      obtain ⟨rfl, hrow_35, hnn_36⟩ : r_32 = rowB (rdN tf (x - (p + 1)) (p + 1) 0 0 0 nuf) 2 ∧ (rowB (rdN tf (x - (p + 1)) (p + 1) 0 0 0 nuf) 2 = 1 → rdN tf (x - (p + 1)) (p + 1) 0 0 0 nuf = (some np_33, 2, nnu_34)) ∧ (∀ j, j < 3 → nnu_34 j < 1000) := hp_29
      have hw_30x : ws_31 = [(mm, .inr (11, [.int (nI x), .ref mtx, .int (nI np_33), .ref mnu, .int fa_, .int (nI rn), .int (nI rm_), .ref mrc, .ref mrw, .ref mrl, .int cl_, .ref mki, .ref mwa, .int ls_, .ref mle, .ref mno, .ref mtr, .ref mse, .ref mba, .int ba_, .ref mim, .int km_, .int si_, .ref msi, .ref mfo, .int fm_, .ref mor, .ref mbo, .ref mma, .ref mbm, .ref mso])), (mtx, .inl (V.2.2.1, 200, .inl (nIf tf))), (mnu, .inl (V.2.2.1, 3, .inl (nIf nnu_34))), (mrc, .inl (V.2.2.1, 21, .inl (leF kr kw kg))), (mrw, .inl (V.2.2.1, 7, .inl rwb)), (mrl, .inl (V.2.2.1, 27, .inl (leF rl0 rl1 rl2)))] := hw_30.symm
      clear hw_30; subst hw_30x
      have hR := hrow_35 (rowB_1 hq (by omega))
      refine g_if_eq X 180 dX11_isItem_136 (by decide) (fun c136_37 => absurd c136_37 (by rw [rowB_1 hq (by omega)]; decide)) (fun c136_37 => ?_)
      rw [hR] at hk
      dsimp only at hk
      have hb0 := hnn_36 0 (by omega)
      have hb1 := hnn_36 1 (by omega)
      have hb2 := hnn_36 2 (by omega)
      refine g_aload_n X dX11_isItem_139 rfl ?_
      refine g_get X uwX11 0 rfl rfl 3 (by decide) kl_X11_13 rfl rfl gwX11 dX11_isItem_140 ?_
      refine g_iconst X (0) dX11_isItem_143 (by decide) ?_
      refine g_iald' X 2 rfl (i := 0) rfl (by omega) (by omega) dX11_isItem_144 ?_
      refine g_toe (nI (nnu_34 0)) rfl ?_
      refine g_aload_n X dX11_isItem_145 rfl ?_
      refine g_get X uwX11 0 rfl rfl 3 (by decide) kl_X11_13 rfl rfl gwX11 dX11_isItem_146 ?_
      refine g_iconst X (1) dX11_isItem_149 (by decide) ?_
      refine g_iald' X 2 rfl (i := 1) rfl (by omega) (by omega) dX11_isItem_150 ?_
      refine g_toe (nI (nnu_34 1)) rfl ?_
      refine g_icmp_eq X 180 dX11_isItem_151 (by decide) (fun c151_38 => absurd c151_38 (feq (a := nnu_34 0) (b := nnu_34 1) (by omega) (by omega) (by omega))) (fun c151_38 => ?_)
      refine g_aload_n X dX11_isItem_154 rfl ?_
      refine g_get X uwX11 0 rfl rfl 3 (by decide) kl_X11_13 rfl rfl gwX11 dX11_isItem_155 ?_
      refine g_iconst X (0) dX11_isItem_158 (by decide) ?_
      refine g_iald' X 2 rfl (i := 0) rfl (by omega) (by omega) dX11_isItem_159 ?_
      refine g_toe (nI (nnu_34 0)) rfl ?_
      refine g_aload_n X dX11_isItem_160 rfl ?_
      refine g_get X uwX11 0 rfl rfl 5 (by decide) kl_X11_74 rfl rfl gwX11 dX11_isItem_161 ?_
      refine g_icmp_ge X 180 dX11_isItem_164 (by decide) (fun c164_39 => absurd c164_39 (fge (a := nnu_34 0) (b := rn) (by omega) (by omega) (by omega))) (fun c164_39 => ?_)
      refine g_aload_n X dX11_isItem_167 rfl ?_
      refine g_get X uwX11 0 rfl rfl 3 (by decide) kl_X11_13 rfl rfl gwX11 dX11_isItem_168 ?_
      refine g_iconst X (1) dX11_isItem_171 (by decide) ?_
      refine g_iald' X 2 rfl (i := 1) rfl (by omega) (by omega) dX11_isItem_172 ?_
      refine g_toe (nI (nnu_34 1)) rfl ?_
      refine g_aload_n X dX11_isItem_173 rfl ?_
      refine g_get X uwX11 0 rfl rfl 5 (by decide) kl_X11_74 rfl rfl gwX11 dX11_isItem_174 ?_
      refine g_icmp_lt X 182 dX11_isItem_177 (by decide) (fun c177_40 => ?_) (fun c177_40 => absurd (tlt (a := nnu_34 1) (b := rn) (by omega) (by omega) (by omega)) c177_40)
      refine g_aload_n X dX11_isItem_182 rfl ?_
      refine g_aload_n X dX11_isItem_183 rfl ?_
      refine g_get X uwX11 0 rfl rfl 3 (by decide) kl_X11_13 rfl rfl gwX11 dX11_isItem_184 ?_
      refine g_iconst X (0) dX11_isItem_187 (by decide) ?_
      refine g_iald' X 2 rfl (i := 0) rfl (by omega) (by omega) dX11_isItem_188 ?_
      refine g_toe (nI (nnu_34 0)) rfl ?_
      refine g_aload_n X dX11_isItem_189 rfl ?_
      refine g_get X uwX11 0 rfl rfl 3 (by decide) kl_X11_13 rfl rfl gwX11 dX11_isItem_190 ?_
      refine g_iconst X (1) dX11_isItem_193 (by decide) ?_
      refine g_iald' X 2 rfl (i := 1) rfl (by omega) (by omega) dX11_isItem_194 ?_
      refine g_toe (nI (nnu_34 1)) rfl ?_
      refine g_callVv X (c_X11_layWall V mm mtx mnu mrc mrw mrl mki mwa mle mno mtr mse mba mim msi mfo mor mbo mma mbm mso (nI x) (nI np_33) fa_ (nI rn) (nI rm_) cl_ ls_ ba_ km_ si_ fm_ rwb (nnu_34 0) (nnu_34 1) (by omega) (by omega)) mo_X11_layWall kl_X11_78 [0, 4] [1, 0, 0, 0, 2, 0] rfl (by decide +kernel) rfl rfl (fun _ => Nat.le_of_ble_eq_true rfl) 0 11 rfl rfl (As := [.int (nI (nnu_34 0)), .int (nI (nnu_34 1))]) (st := []) (cs' := (0, 0)) rfl rfl rfl rfl dX11_isItem_195 (fun nwb_41 hp_42 ws_44 hw_43 => ?_)
      obtain rfl : nwb_41 = wallM rwb (nnu_34 0) (nnu_34 1) := hp_42
      have hw_43x : ws_44 = [(mm, .inr (11, [.int (nI x), .ref mtx, .int (nI np_33), .ref mnu, .int fa_, .int (nI rn), .int (nI rm_), .ref mrc, .ref mrw, .ref mrl, .int cl_, .ref mki, .ref mwa, .int ls_, .ref mle, .ref mno, .ref mtr, .ref mse, .ref mba, .int ba_, .ref mim, .int km_, .int si_, .ref msi, .ref mfo, .int fm_, .ref mor, .ref mbo, .ref mma, .ref mbm, .ref mso])), (mtx, .inl (V.2.2.1, 200, .inl (nIf tf))), (mnu, .inl (V.2.2.1, 3, .inl (nIf nnu_34))), (mrc, .inl (V.2.2.1, 21, .inl (leF kr kw kg))), (mrw, .inl (V.2.2.1, 7, .inl (wallM rwb (nnu_34 0) (nnu_34 1)))), (mrl, .inl (V.2.2.1, 27, .inl (leF rl0 rl1 rl2)))] := hw_43.symm
      clear hw_43; subst hw_43x
      refine g_iconst X (1) dX11_isItem_198 (by decide) ?_
      exact g_zret X E dX11_isItem_199 ⟨np_33, nnu_34, rn, rm_, kr, kw, kg, wallM rwb (nnu_34 0) (nnu_34 1), rl0, rl1, rl2⟩ 1 rfl ⟨rfl, (by rw [hR] at hq; exact Option.some.inj hq), (by rw [hR]), (by rw [hR, itemM, if_neg hl99, if_pos hl119])⟩ rfl
    · refine g_iload_n X dX11_isItem_125 rfl ?_
      refine g_bipush X (119) dX11_isItem_126 (by decide) ?_
      refine g_icmp_ne X 200 dX11_isItem_128 (by decide) (fun c128_46 => ?_) (fun c128_46 => absurd c128_46 (tne (a := tf p) (b := 119) (by omega) (by omega) (by omega)))
      refine g_iload_n X dX11_isItem_200 rfl ?_
      refine g_bipush X (108) dX11_isItem_201 (by decide) ?_
      refine g_icmp_ne X 234 dX11_isItem_203 (by decide) (fun c203_47 => absurd (teq (a := tf p) (b := 108) (by omega) (by omega) (by omega)) c203_47) (fun c203_47 => ?_)
      refine g_aload_n X dX11_isItem_206 rfl ?_
      refine g_get X uwX11 0 rfl rfl 6 (by decide) kl_X11_85 rfl rfl gwX11 dX11_isItem_207 ?_
      refine g_bipush X (9) dX11_isItem_210 (by decide) ?_
      refine g_icmp_eq X 234 dX11_isItem_212 (by decide) (fun c212_48 => absurd c212_48 (feq (a := rm_) (b := 9) (by omega) (by omega) (by omega))) (fun c212_48 => ?_)
      refine g_aload_n X dX11_isItem_215 rfl ?_
      refine g_iconst X (3) dX11_isItem_216 (by decide) ?_
      refine g_callVi X (c_X11_isRow V mm mtx mnu mrc mrw mrl mki mwa mle mno mtr mse mba mim msi mfo mor mbo mma mbm mso x (p + 1) fa_ (nI rn) (nI rm_) cl_ ls_ ba_ km_ si_ fm_ tf nuf 3 (by omega) (by omega) (by omega) (by omega) (by omega)) mo_X11_isRow kl_X11_108 [0, 1, 2] [1, 2, 3, 0, 0, 0] rfl (by decide +kernel) rfl rfl (fun _ => Nat.le_of_ble_eq_true rfl) 0 11 rfl rfl (As := [.int 3]) (st := []) (cs' := (0, 0)) rfl rfl rfl rfl dX11_isItem_217 (fun r_53 u_49 hp_50 ws_52 hw_51 => ?_)
      obtain ⟨np_54, nnu_55⟩ := u_49
      obtain ⟨rfl, hrow_56, hnn_57⟩ : r_53 = rowB (rdN tf (x - (p + 1)) (p + 1) 0 0 0 nuf) 3 ∧ (rowB (rdN tf (x - (p + 1)) (p + 1) 0 0 0 nuf) 3 = 1 → rdN tf (x - (p + 1)) (p + 1) 0 0 0 nuf = (some np_54, 3, nnu_55)) ∧ (∀ j, j < 3 → nnu_55 j < 1000) := hp_50
      have hw_51x : ws_52 = [(mm, .inr (11, [.int (nI x), .ref mtx, .int (nI np_54), .ref mnu, .int fa_, .int (nI rn), .int (nI rm_), .ref mrc, .ref mrw, .ref mrl, .int cl_, .ref mki, .ref mwa, .int ls_, .ref mle, .ref mno, .ref mtr, .ref mse, .ref mba, .int ba_, .ref mim, .int km_, .int si_, .ref msi, .ref mfo, .int fm_, .ref mor, .ref mbo, .ref mma, .ref mbm, .ref mso])), (mtx, .inl (V.2.2.1, 200, .inl (nIf tf))), (mnu, .inl (V.2.2.1, 3, .inl (nIf nnu_55))), (mrc, .inl (V.2.2.1, 21, .inl (leF kr kw kg))), (mrw, .inl (V.2.2.1, 7, .inl rwb)), (mrl, .inl (V.2.2.1, 27, .inl (leF rl0 rl1 rl2)))] := hw_51.symm
      clear hw_51; subst hw_51x
      have hR := hrow_56 (rowB_1 hq (by omega))
      refine g_if_eq X 234 dX11_isItem_220 (by decide) (fun c220_58 => absurd c220_58 (by rw [rowB_1 hq (by omega)]; decide)) (fun c220_58 => ?_)
      rw [hR] at hk
      dsimp only at hk
      have hb0 := hnn_57 0 (by omega)
      have hb1 := hnn_57 1 (by omega)
      have hb2 := hnn_57 2 (by omega)
      refine g_aload_n X dX11_isItem_223 rfl ?_
      refine g_get X uwX11 0 rfl rfl 3 (by decide) kl_X11_13 rfl rfl gwX11 dX11_isItem_224 ?_
      refine g_iconst X (0) dX11_isItem_227 (by decide) ?_
      refine g_iald' X 2 rfl (i := 0) rfl (by omega) (by omega) dX11_isItem_228 ?_
      refine g_toe (nI (nnu_55 0)) rfl ?_
      refine g_bipush X (13) dX11_isItem_229 (by decide) ?_
      refine g_icmp_le X 236 dX11_isItem_231 (by decide) (fun c231_59 => ?_) (fun c231_59 => absurd (tle (a := nnu_55 0) (b := 13) (by omega) (by omega) (by omega)) c231_59)
      refine g_aload_n X dX11_isItem_236 rfl ?_
      refine g_get X uwX11 0 rfl rfl 3 (by decide) kl_X11_13 rfl rfl gwX11 dX11_isItem_237 ?_
      refine g_iconst X (1) dX11_isItem_240 (by decide) ?_
      refine g_iald' X 2 rfl (i := 1) rfl (by omega) (by omega) dX11_isItem_241 ?_
      refine g_toe (nI (nnu_55 1)) rfl ?_
      refine g_aload_n X dX11_isItem_242 rfl ?_
      refine g_get X uwX11 0 rfl rfl 3 (by decide) kl_X11_13 rfl rfl gwX11 dX11_isItem_243 ?_
      refine g_iconst X (2) dX11_isItem_246 (by decide) ?_
      refine g_iald' X 2 rfl (i := 2) rfl (by omega) (by omega) dX11_isItem_247 ?_
      refine g_toe (nI (nnu_55 2)) rfl ?_
      refine g_icmp_eq X 277 dX11_isItem_248 (by decide) (fun c248_60 => absurd c248_60 (feq (a := nnu_55 1) (b := nnu_55 2) (by omega) (by omega) (by omega))) (fun c248_60 => ?_)
      refine g_aload_n X dX11_isItem_251 rfl ?_
      refine g_get X uwX11 0 rfl rfl 3 (by decide) kl_X11_13 rfl rfl gwX11 dX11_isItem_252 ?_
      refine g_iconst X (1) dX11_isItem_255 (by decide) ?_
      refine g_iald' X 2 rfl (i := 1) rfl (by omega) (by omega) dX11_isItem_256 ?_
      refine g_toe (nI (nnu_55 1)) rfl ?_
      refine g_aload_n X dX11_isItem_257 rfl ?_
      refine g_get X uwX11 0 rfl rfl 5 (by decide) kl_X11_74 rfl rfl gwX11 dX11_isItem_258 ?_
      refine g_icmp_ge X 277 dX11_isItem_261 (by decide) (fun c261_61 => absurd c261_61 (fge (a := nnu_55 1) (b := rn) (by omega) (by omega) (by omega))) (fun c261_61 => ?_)
      refine g_aload_n X dX11_isItem_264 rfl ?_
      refine g_get X uwX11 0 rfl rfl 3 (by decide) kl_X11_13 rfl rfl gwX11 dX11_isItem_265 ?_
      refine g_iconst X (2) dX11_isItem_268 (by decide) ?_
      refine g_iald' X 2 rfl (i := 2) rfl (by omega) (by omega) dX11_isItem_269 ?_
      refine g_toe (nI (nnu_55 2)) rfl ?_
      refine g_aload_n X dX11_isItem_270 rfl ?_
      refine g_get X uwX11 0 rfl rfl 5 (by decide) kl_X11_74 rfl rfl gwX11 dX11_isItem_271 ?_
      refine g_icmp_lt X 279 dX11_isItem_274 (by decide) (fun c274_62 => ?_) (fun c274_62 => absurd (tlt (a := nnu_55 2) (b := rn) (by omega) (by omega) (by omega)) c274_62)
      refine g_aload_n X dX11_isItem_279 rfl ?_
      refine g_aload_n X dX11_isItem_280 rfl ?_
      refine g_get X uwX11 0 rfl rfl 6 (by decide) kl_X11_85 rfl rfl gwX11 dX11_isItem_281 ?_
      refine g_aload_n X dX11_isItem_284 rfl ?_
      refine g_get X uwX11 0 rfl rfl 3 (by decide) kl_X11_13 rfl rfl gwX11 dX11_isItem_285 ?_
      refine g_iconst X (0) dX11_isItem_288 (by decide) ?_
      refine g_iald' X 2 rfl (i := 0) rfl (by omega) (by omega) dX11_isItem_289 ?_
      refine g_toe (nI (nnu_55 0)) rfl ?_
      refine g_aload_n X dX11_isItem_290 rfl ?_
      refine g_get X uwX11 0 rfl rfl 3 (by decide) kl_X11_13 rfl rfl gwX11 dX11_isItem_291 ?_
      refine g_iconst X (1) dX11_isItem_294 (by decide) ?_
      refine g_iald' X 2 rfl (i := 1) rfl (by omega) (by omega) dX11_isItem_295 ?_
      refine g_toe (nI (nnu_55 1)) rfl ?_
      refine g_aload_n X dX11_isItem_296 rfl ?_
      refine g_get X uwX11 0 rfl rfl 3 (by decide) kl_X11_13 rfl rfl gwX11 dX11_isItem_297 ?_
      refine g_iconst X (2) dX11_isItem_300 (by decide) ?_
      refine g_iald' X 2 rfl (i := 2) rfl (by omega) (by omega) dX11_isItem_301 ?_
      refine g_toe (nI (nnu_55 2)) rfl ?_
      refine g_callVv X (c_X11_layLesson V mm mtx mnu mrc mrw mrl mki mwa mle mno mtr mse mba mim msi mfo mor mbo mma mbm mso (nI x) (nI np_54) fa_ (nI rn) (nI rm_) cl_ ls_ ba_ km_ si_ fm_ rl0 rl1 rl2 rm_ (nnu_55 0) (nnu_55 1) (nnu_55 2) (by omega)) mo_X11_layLesson kl_X11_82 [0, 5] [1, 0, 0, 0, 0, 2] rfl (by decide +kernel) rfl rfl (fun _ => Nat.le_of_ble_eq_true rfl) 0 11 rfl rfl (As := [.int (nI rm_), .int (nI (nnu_55 0)), .int (nI (nnu_55 1)), .int (nI (nnu_55 2))]) (st := []) (cs' := (0, 0)) rfl rfl rfl rfl dX11_isItem_302 (fun u_63 hp_64 ws_66 hw_65 => ?_)
      have hw_65x : ws_66 = [(mm, .inr (11, [.int (nI x), .ref mtx, .int (nI np_54), .ref mnu, .int fa_, .int (nI rn), .int (nI rm_), .ref mrc, .ref mrw, .ref mrl, .int cl_, .ref mki, .ref mwa, .int ls_, .ref mle, .ref mno, .ref mtr, .ref mse, .ref mba, .int ba_, .ref mim, .int km_, .int si_, .ref msi, .ref mfo, .int fm_, .ref mor, .ref mbo, .ref mma, .ref mbm, .ref mso])), (mtx, .inl (V.2.2.1, 200, .inl (nIf tf))), (mnu, .inl (V.2.2.1, 3, .inl (nIf nnu_55))), (mrc, .inl (V.2.2.1, 21, .inl (leF kr kw kg))), (mrw, .inl (V.2.2.1, 7, .inl rwb)), (mrl, .inl (V.2.2.1, 27, .inl (leF (updN rl0 rm_ (nnu_55 0)) (updN rl1 rm_ (nnu_55 1)) (updN rl2 rm_ (nnu_55 2)))))] := hw_65.symm
      clear hw_65; subst hw_65x
      refine g_aload_n X dX11_isItem_305 rfl ?_
      refine g_dup X dX11_isItem_306 rfl ?_
      refine g_get X uwX11 0 rfl rfl 6 (by decide) kl_X11_85 rfl rfl gwX11 dX11_isItem_307 ?_
      refine g_iconst X (1) dX11_isItem_310 (by decide) ?_
      refine g_iadd X dX11_isItem_311 ?_
      refine g_toe (x' := nI (rm_ + 1)) (nI_add' rfl rfl) ?_
      refine g_put X uwX11 tyX11 tyX11_ok nmX11 0 rfl rfl 6 (by decide) kl_X11_85 rfl rfl rfl rfl (Nat.le_of_ble_eq_true rfl) gwX11 (ws' := [(mm, .inr (11, [.int (nI x), .ref mtx, .int (nI np_54), .ref mnu, .int fa_, .int (nI rn), .int (nI (rm_ + 1)), .ref mrc, .ref mrw, .ref mrl, .int cl_, .ref mki, .ref mwa, .int ls_, .ref mle, .ref mno, .ref mtr, .ref mse, .ref mba, .int ba_, .ref mim, .int km_, .int si_, .ref msi, .ref mfo, .int fm_, .ref mor, .ref mbo, .ref mma, .ref mbm, .ref mso])), (mtx, .inl (V.2.2.1, 200, .inl (nIf tf))), (mnu, .inl (V.2.2.1, 3, .inl (nIf nnu_55))), (mrc, .inl (V.2.2.1, 21, .inl (leF kr kw kg))), (mrw, .inl (V.2.2.1, 7, .inl rwb)), (mrl, .inl (V.2.2.1, 27, .inl (leF (updN rl0 rm_ (nnu_55 0)) (updN rl1 rm_ (nnu_55 1)) (updN rl2 rm_ (nnu_55 2)))))]) rfl dX11_isItem_312 ?_
      refine g_iconst X (1) dX11_isItem_315 (by decide) ?_
      exact g_zret X E dX11_isItem_316 ⟨np_54, nnu_55, rn, rm_ + 1, kr, kw, kg, rwb, updN rl0 rm_ (nnu_55 0), updN rl1 rm_ (nnu_55 1), updN rl2 rm_ (nnu_55 2)⟩ 1 rfl ⟨rfl, (by rw [hR] at hq; exact Option.some.inj hq), (by rw [hR]), (by rw [hR, itemM, if_neg hl99, if_neg hl119])⟩ rfl

set_option maxHeartbeats 4000000 in
set_option maxRecDepth 100000 in
theorem c_X11_isItem_no (V : gV) (mm : Nat) (mtx : Nat) (mnu : Nat) (mrc : Nat) (mrw : Nat) (mrl : Nat) (mki : Nat) (mwa : Nat) (mle : Nat) (mno : Nat) (mtr : Nat) (mse : Nat) (mba : Nat) (mim : Nat) (msi : Nat) (mfo : Nat) (mor : Nat) (mbo : Nat) (mma : Nat) (mbm : Nat) (mso : Nat) (x : Nat) (p : Nat) (fa_ : Int32) (rn : Nat) (rm_ : Nat) (cl_ : Int32) (ls_ : Int32) (ba_ : Int32) (km_ : Int32) (si_ : Int32) (fm_ : Int32) (tf : Nat → Nat) (nuf : Nat → Nat) (kr : Nat → Nat) (kw : Nat → Nat) (kg : Nat → Nat) (rwb : Nat → Int32) (rl0 : Nat → Nat) (rl1 : Nat → Nat) (rl2 : Nat → Nat) (hx : x ≤ 200) (hl : ∀ j, j < x → tf j < 1000) (hpx : p < x) (hn : rn ≤ 7) (hm : rm_ ≤ 9) (hnu0 : ∀ j, j < 3 → nuf j < 1000) (hno : ¬ ((rdN tf (x - (p + 1)) (p + 1) 0 0 0 nuf).1.isSome = true ∧ itemOK (tf p) (rdN tf (x - (p + 1)) (p + 1) 0 0 0 nuf).2.1 (rdN tf (x - (p + 1)) (p + 1) 0 0 0 nuf).2.2 rn rm_)) : Ki V yX11_isItem cX11_isItem 2 .boolean ({ frames := 2, cells := 0, slots := 0, locals := 46 }) [.ref mm] [(mm, .inr (11, [.int (nI x), .ref mtx, .int (nI p), .ref mnu, .int fa_, .int (nI rn), .int (nI rm_), .ref mrc, .ref mrw, .ref mrl, .int cl_, .ref mki, .ref mwa, .int ls_, .ref mle, .ref mno, .ref mtr, .ref mse, .ref mba, .int ba_, .ref mim, .int km_, .int si_, .ref msi, .ref mfo, .int fm_, .ref mor, .ref mbo, .ref mma, .ref mbm, .ref mso])), (mtx, .inl (V.2.2.1, 200, .inl (nIf tf))), (mnu, .inl (V.2.2.1, 3, .inl (nIf nuf))), (mrc, .inl (V.2.2.1, 21, .inl (leF kr kw kg))), (mrw, .inl (V.2.2.1, 7, .inl rwb)), (mrl, .inl (V.2.2.1, 27, .inl (leF rl0 rl1 rl2)))] (fun (r : Int32) (u : Nat × (Nat → Nat)) => r = 0 ∧ (∀ j, j < 3 → u.2 j < 1000)) (fun u => [(mm, .inr (11, [.int (nI x), .ref mtx, .int (nI u.1), .ref mnu, .int fa_, .int (nI rn), .int (nI rm_), .ref mrc, .ref mrw, .ref mrl, .int cl_, .ref mki, .ref mwa, .int ls_, .ref mle, .ref mno, .ref mtr, .ref mse, .ref mba, .int ba_, .ref mim, .int km_, .int si_, .ref msi, .ref mfo, .int fm_, .ref mor, .ref mbo, .ref mma, .ref mbm, .ref mso])), (mtx, .inl (V.2.2.1, 200, .inl (nIf tf))), (mnu, .inl (V.2.2.1, 3, .inl (nIf u.2))), (mrc, .inl (V.2.2.1, 21, .inl (leF kr kw kg))), (mrw, .inl (V.2.2.1, 7, .inl rwb)), (mrl, .inl (V.2.2.1, 27, .inl (leF rl0 rl1 rl2)))]) := by
  refine Ki.of [some (.ref mm), none] (by decide) (Nat.le_of_ble_eq_true rfl) rfl rfl ?_
  intro Z X E
  have X : gX V Z RX11 cX11_isItem 2 ({ frames := 2, cells := 0, slots := 0, locals := 46 }) := X
  have hlp := hl p hpx
  refine g_aload_n X dX11_isItem_0 rfl ?_
  refine g_aload_n X dX11_isItem_1 rfl ?_
  refine g_get X uwX11 0 rfl rfl 2 (by decide) kl_X11_101 rfl rfl gwX11 dX11_isItem_2 ?_
  refine g_callVi X (c_X11_letterAt_in V mm mtx mnu mrc mrw mrl mki mwa mle mno mtr mse mba mim msi mfo mor mbo mma mbm mso x (nI p) fa_ (nI rn) (nI rm_) cl_ ls_ ba_ km_ si_ fm_ tf p (by omega) hpx) mo_X11_letterAt kl_X11_104 [0, 1] [1, 2, 0, 0, 0, 0] rfl (by decide +kernel) rfl rfl (fun _ => Nat.le_of_ble_eq_true rfl) 0 11 rfl rfl (As := [.int (nI p)]) (st := []) (cs' := (0, 0)) rfl rfl rfl rfl dX11_isItem_5 (fun r_5 u_1 hp_2 ws_4 hw_3 => ?_)
  obtain rfl : r_5 = nI (tf p) := hp_2
  have hw_3x : ws_4 = [(mm, .inr (11, [.int (nI x), .ref mtx, .int (nI p), .ref mnu, .int fa_, .int (nI rn), .int (nI rm_), .ref mrc, .ref mrw, .ref mrl, .int cl_, .ref mki, .ref mwa, .int ls_, .ref mle, .ref mno, .ref mtr, .ref mse, .ref mba, .int ba_, .ref mim, .int km_, .int si_, .ref msi, .ref mfo, .int fm_, .ref mor, .ref mbo, .ref mma, .ref mbm, .ref mso])), (mtx, .inl (V.2.2.1, 200, .inl (nIf tf))), (mnu, .inl (V.2.2.1, 3, .inl (nIf nuf))), (mrc, .inl (V.2.2.1, 21, .inl (leF kr kw kg))), (mrw, .inl (V.2.2.1, 7, .inl rwb)), (mrl, .inl (V.2.2.1, 27, .inl (leF rl0 rl1 rl2)))] := hw_3.symm
  clear hw_3; subst hw_3x
  refine g_istore_n X (L' := [some (.ref mm), some (.int (nI (tf p)))]) dX11_isItem_8 (by decide) rfl rfl ?_
  refine g_aload_n X dX11_isItem_9 rfl ?_
  refine g_dup X dX11_isItem_10 rfl ?_
  refine g_get X uwX11 0 rfl rfl 2 (by decide) kl_X11_101 rfl rfl gwX11 dX11_isItem_11 ?_
  refine g_iconst X (1) dX11_isItem_14 (by decide) ?_
  refine g_iadd X dX11_isItem_15 ?_
  refine g_toe (x' := nI (p + 1)) (nI_add' rfl rfl) ?_
  refine g_put X uwX11 tyX11 tyX11_ok nmX11 0 rfl rfl 2 (by decide) kl_X11_101 rfl rfl rfl rfl (Nat.le_of_ble_eq_true rfl) gwX11 (ws' := [(mm, .inr (11, [.int (nI x), .ref mtx, .int (nI (p + 1)), .ref mnu, .int fa_, .int (nI rn), .int (nI rm_), .ref mrc, .ref mrw, .ref mrl, .int cl_, .ref mki, .ref mwa, .int ls_, .ref mle, .ref mno, .ref mtr, .ref mse, .ref mba, .int ba_, .ref mim, .int km_, .int si_, .ref msi, .ref mfo, .int fm_, .ref mor, .ref mbo, .ref mma, .ref mbm, .ref mso])), (mtx, .inl (V.2.2.1, 200, .inl (nIf tf))), (mnu, .inl (V.2.2.1, 3, .inl (nIf nuf))), (mrc, .inl (V.2.2.1, 21, .inl (leF kr kw kg))), (mrw, .inl (V.2.2.1, 7, .inl rwb)), (mrl, .inl (V.2.2.1, 27, .inl (leF rl0 rl1 rl2)))]) rfl dX11_isItem_16 ?_
  by_cases hl99 : tf p = 99
  · refine g_iload_n X dX11_isItem_19 rfl ?_
    refine g_bipush X (99) dX11_isItem_20 (by decide) ?_
    refine g_icmp_ne X 125 dX11_isItem_22 (by decide) (fun c22_6 => absurd (teq (a := tf p) (b := 99) (by omega) (by omega) (by omega)) c22_6) (fun c22_6 => ?_)
    refine g_aload_n X dX11_isItem_25 rfl ?_
    refine g_get X uwX11 0 rfl rfl 5 (by decide) kl_X11_74 rfl rfl gwX11 dX11_isItem_26 ?_
    refine g_bipush X (7) dX11_isItem_29 (by decide) ?_
    refine g_icmp_eq X 75 dX11_isItem_31 (by decide) (fun c31_7 => ?_) (fun c31_7 => ?_)
    · have c31_7n := ieq' (a := rn) (b := 7) c31_7 (by omega) (by omega)
      refine g_iconst X (0) dX11_isItem_75 (by decide) ?_
      exact g_zret X E dX11_isItem_76 ⟨p + 1, nuf⟩ 0 rfl ⟨rfl, hnu0⟩ rfl
    · have c31_7n := ine' (a := rn) (b := 7) c31_7 (by omega) (by omega)
      refine g_aload_n X dX11_isItem_34 rfl ?_
      refine g_iconst X (3) dX11_isItem_35 (by decide) ?_
      refine g_callVi X (c_X11_isRow V mm mtx mnu mrc mrw mrl mki mwa mle mno mtr mse mba mim msi mfo mor mbo mma mbm mso x (p + 1) fa_ (nI rn) (nI rm_) cl_ ls_ ba_ km_ si_ fm_ tf nuf 3 (by omega) (by omega) (by omega) (by omega) (by omega)) mo_X11_isRow kl_X11_108 [0, 1, 2] [1, 2, 3, 0, 0, 0] rfl (by decide +kernel) rfl rfl (fun _ => Nat.le_of_ble_eq_true rfl) 0 11 rfl rfl (As := [.int 3]) (st := []) (cs' := (0, 0)) rfl rfl rfl rfl dX11_isItem_36 (fun r_12 u_8 hp_9 ws_11 hw_10 => ?_)
      obtain ⟨np_13, nnu_14⟩ := u_8
      obtain ⟨rfl, hrow_15, hnn_16⟩ : r_12 = rowB (rdN tf (x - (p + 1)) (p + 1) 0 0 0 nuf) 3 ∧ (rowB (rdN tf (x - (p + 1)) (p + 1) 0 0 0 nuf) 3 = 1 → rdN tf (x - (p + 1)) (p + 1) 0 0 0 nuf = (some np_13, 3, nnu_14)) ∧ (∀ j, j < 3 → nnu_14 j < 1000) := hp_9
      have hw_10x : ws_11 = [(mm, .inr (11, [.int (nI x), .ref mtx, .int (nI np_13), .ref mnu, .int fa_, .int (nI rn), .int (nI rm_), .ref mrc, .ref mrw, .ref mrl, .int cl_, .ref mki, .ref mwa, .int ls_, .ref mle, .ref mno, .ref mtr, .ref mse, .ref mba, .int ba_, .ref mim, .int km_, .int si_, .ref msi, .ref mfo, .int fm_, .ref mor, .ref mbo, .ref mma, .ref mbm, .ref mso])), (mtx, .inl (V.2.2.1, 200, .inl (nIf tf))), (mnu, .inl (V.2.2.1, 3, .inl (nIf nnu_14))), (mrc, .inl (V.2.2.1, 21, .inl (leF kr kw kg))), (mrw, .inl (V.2.2.1, 7, .inl rwb)), (mrl, .inl (V.2.2.1, 27, .inl (leF rl0 rl1 rl2)))] := hw_10.symm
      clear hw_10; subst hw_10x
      refine g_if_eq X 75 dX11_isItem_39 (by decide) (fun c39_17 => ?_) (fun c39_17 => ?_)
      · refine g_iconst X (0) dX11_isItem_75 (by decide) ?_
        exact g_zret X E dX11_isItem_76 ⟨np_13, nnu_14⟩ 0 rfl ⟨rfl, hnn_16⟩ rfl
      · have hR := hrow_15 (rowB_ne c39_17)
        have hb0 := hnn_16 0 (by omega)
        have hb1 := hnn_16 1 (by omega)
        have hb2 := hnn_16 2 (by omega)
        refine g_aload_n X dX11_isItem_42 rfl ?_
        refine g_get X uwX11 0 rfl rfl 3 (by decide) kl_X11_13 rfl rfl gwX11 dX11_isItem_43 ?_
        refine g_iconst X (0) dX11_isItem_46 (by decide) ?_
        refine g_iald' X 2 rfl (i := 0) rfl (by omega) (by omega) dX11_isItem_47 ?_
        refine g_toe (nI (nnu_14 0)) rfl ?_
        refine g_iconst X (4) dX11_isItem_48 (by decide) ?_
        refine g_icmp_gt X 75 dX11_isItem_49 (by decide) (fun c49_18 => ?_) (fun c49_18 => ?_)
        · have c49_18n := igt' (a := nnu_14 0) (b := 4) c49_18 (by omega) (by omega)
          refine g_iconst X (0) dX11_isItem_75 (by decide) ?_
          exact g_zret X E dX11_isItem_76 ⟨np_13, nnu_14⟩ 0 rfl ⟨rfl, hnn_16⟩ rfl
        · have c49_18n := ingt' (a := nnu_14 0) (b := 4) c49_18 (by omega) (by omega)
          refine g_aload_n X dX11_isItem_52 rfl ?_
          refine g_get X uwX11 0 rfl rfl 3 (by decide) kl_X11_13 rfl rfl gwX11 dX11_isItem_53 ?_
          refine g_iconst X (1) dX11_isItem_56 (by decide) ?_
          refine g_iald' X 2 rfl (i := 1) rfl (by omega) (by omega) dX11_isItem_57 ?_
          refine g_toe (nI (nnu_14 1)) rfl ?_
          refine g_sipush X (200) dX11_isItem_58 (by decide) ?_
          refine g_icmp_gt X 75 dX11_isItem_61 (by decide) (fun c61_19 => ?_) (fun c61_19 => ?_)
          · have c61_19n := igt' (a := nnu_14 1) (b := 200) c61_19 (by omega) (by omega)
            refine g_iconst X (0) dX11_isItem_75 (by decide) ?_
            exact g_zret X E dX11_isItem_76 ⟨np_13, nnu_14⟩ 0 rfl ⟨rfl, hnn_16⟩ rfl
          · have c61_19n := ingt' (a := nnu_14 1) (b := 200) c61_19 (by omega) (by omega)
            refine g_aload_n X dX11_isItem_64 rfl ?_
            refine g_get X uwX11 0 rfl rfl 3 (by decide) kl_X11_13 rfl rfl gwX11 dX11_isItem_65 ?_
            refine g_iconst X (2) dX11_isItem_68 (by decide) ?_
            refine g_iald' X 2 rfl (i := 2) rfl (by omega) (by omega) dX11_isItem_69 ?_
            refine g_toe (nI (nnu_14 2)) rfl ?_
            refine g_bipush X (20) dX11_isItem_70 (by decide) ?_
            refine g_icmp_le X 77 dX11_isItem_72 (by decide) (fun c72_20 => ?_) (fun c72_20 => ?_)
            · have c72_20n := ile' (a := nnu_14 2) (b := 20) c72_20 (by omega) (by omega)
              exact absurd (by rw [hR]; exact ⟨rfl, Or.inl ⟨hl99, rfl, (show rn < 7 by omega), (show nnu_14 0 ≤ 4 by omega), (show nnu_14 1 ≤ 200 by omega), (show nnu_14 2 ≤ 20 by omega)⟩⟩) hno
            · have c72_20n := inle' (a := nnu_14 2) (b := 20) c72_20 (by omega) (by omega)
              refine g_iconst X (0) dX11_isItem_75 (by decide) ?_
              exact g_zret X E dX11_isItem_76 ⟨np_13, nnu_14⟩ 0 rfl ⟨rfl, hnn_16⟩ rfl
  · refine g_iload_n X dX11_isItem_19 rfl ?_
    refine g_bipush X (99) dX11_isItem_20 (by decide) ?_
    refine g_icmp_ne X 125 dX11_isItem_22 (by decide) (fun c22_21 => ?_) (fun c22_21 => absurd c22_21 (tne (a := tf p) (b := 99) (by omega) (by omega) (by omega)))
    by_cases hl119 : tf p = 119
    · refine g_iload_n X dX11_isItem_125 rfl ?_
      refine g_bipush X (119) dX11_isItem_126 (by decide) ?_
      refine g_icmp_ne X 200 dX11_isItem_128 (by decide) (fun c128_22 => absurd (teq (a := tf p) (b := 119) (by omega) (by omega) (by omega)) c128_22) (fun c128_22 => ?_)
      refine g_aload_n X dX11_isItem_131 rfl ?_
      refine g_iconst X (2) dX11_isItem_132 (by decide) ?_
      refine g_callVi X (c_X11_isRow V mm mtx mnu mrc mrw mrl mki mwa mle mno mtr mse mba mim msi mfo mor mbo mma mbm mso x (p + 1) fa_ (nI rn) (nI rm_) cl_ ls_ ba_ km_ si_ fm_ tf nuf 2 (by omega) (by omega) (by omega) (by omega) (by omega)) mo_X11_isRow kl_X11_108 [0, 1, 2] [1, 2, 3, 0, 0, 0] rfl (by decide +kernel) rfl rfl (fun _ => Nat.le_of_ble_eq_true rfl) 0 11 rfl rfl (As := [.int 2]) (st := []) (cs' := (0, 0)) rfl rfl rfl rfl dX11_isItem_133 (fun r_27 u_23 hp_24 ws_26 hw_25 => ?_)
      obtain ⟨np_28, nnu_29⟩ := u_23
      obtain ⟨rfl, hrow_30, hnn_31⟩ : r_27 = rowB (rdN tf (x - (p + 1)) (p + 1) 0 0 0 nuf) 2 ∧ (rowB (rdN tf (x - (p + 1)) (p + 1) 0 0 0 nuf) 2 = 1 → rdN tf (x - (p + 1)) (p + 1) 0 0 0 nuf = (some np_28, 2, nnu_29)) ∧ (∀ j, j < 3 → nnu_29 j < 1000) := hp_24
      have hw_25x : ws_26 = [(mm, .inr (11, [.int (nI x), .ref mtx, .int (nI np_28), .ref mnu, .int fa_, .int (nI rn), .int (nI rm_), .ref mrc, .ref mrw, .ref mrl, .int cl_, .ref mki, .ref mwa, .int ls_, .ref mle, .ref mno, .ref mtr, .ref mse, .ref mba, .int ba_, .ref mim, .int km_, .int si_, .ref msi, .ref mfo, .int fm_, .ref mor, .ref mbo, .ref mma, .ref mbm, .ref mso])), (mtx, .inl (V.2.2.1, 200, .inl (nIf tf))), (mnu, .inl (V.2.2.1, 3, .inl (nIf nnu_29))), (mrc, .inl (V.2.2.1, 21, .inl (leF kr kw kg))), (mrw, .inl (V.2.2.1, 7, .inl rwb)), (mrl, .inl (V.2.2.1, 27, .inl (leF rl0 rl1 rl2)))] := hw_25.symm
      clear hw_25; subst hw_25x
      refine g_if_eq X 180 dX11_isItem_136 (by decide) (fun c136_32 => ?_) (fun c136_32 => ?_)
      · refine g_iconst X (0) dX11_isItem_180 (by decide) ?_
        exact g_zret X E dX11_isItem_181 ⟨np_28, nnu_29⟩ 0 rfl ⟨rfl, hnn_31⟩ rfl
      · have hR := hrow_30 (rowB_ne c136_32)
        have hb0 := hnn_31 0 (by omega)
        have hb1 := hnn_31 1 (by omega)
        have hb2 := hnn_31 2 (by omega)
        refine g_aload_n X dX11_isItem_139 rfl ?_
        refine g_get X uwX11 0 rfl rfl 3 (by decide) kl_X11_13 rfl rfl gwX11 dX11_isItem_140 ?_
        refine g_iconst X (0) dX11_isItem_143 (by decide) ?_
        refine g_iald' X 2 rfl (i := 0) rfl (by omega) (by omega) dX11_isItem_144 ?_
        refine g_toe (nI (nnu_29 0)) rfl ?_
        refine g_aload_n X dX11_isItem_145 rfl ?_
        refine g_get X uwX11 0 rfl rfl 3 (by decide) kl_X11_13 rfl rfl gwX11 dX11_isItem_146 ?_
        refine g_iconst X (1) dX11_isItem_149 (by decide) ?_
        refine g_iald' X 2 rfl (i := 1) rfl (by omega) (by omega) dX11_isItem_150 ?_
        refine g_toe (nI (nnu_29 1)) rfl ?_
        refine g_icmp_eq X 180 dX11_isItem_151 (by decide) (fun c151_33 => ?_) (fun c151_33 => ?_)
        · have c151_33n := ieq' (a := nnu_29 0) (b := nnu_29 1) c151_33 (by omega) (by omega)
          refine g_iconst X (0) dX11_isItem_180 (by decide) ?_
          exact g_zret X E dX11_isItem_181 ⟨np_28, nnu_29⟩ 0 rfl ⟨rfl, hnn_31⟩ rfl
        · have c151_33n := ine' (a := nnu_29 0) (b := nnu_29 1) c151_33 (by omega) (by omega)
          refine g_aload_n X dX11_isItem_154 rfl ?_
          refine g_get X uwX11 0 rfl rfl 3 (by decide) kl_X11_13 rfl rfl gwX11 dX11_isItem_155 ?_
          refine g_iconst X (0) dX11_isItem_158 (by decide) ?_
          refine g_iald' X 2 rfl (i := 0) rfl (by omega) (by omega) dX11_isItem_159 ?_
          refine g_toe (nI (nnu_29 0)) rfl ?_
          refine g_aload_n X dX11_isItem_160 rfl ?_
          refine g_get X uwX11 0 rfl rfl 5 (by decide) kl_X11_74 rfl rfl gwX11 dX11_isItem_161 ?_
          refine g_icmp_ge X 180 dX11_isItem_164 (by decide) (fun c164_34 => ?_) (fun c164_34 => ?_)
          · have c164_34n := ige' (a := nnu_29 0) (b := rn) c164_34 (by omega) (by omega)
            refine g_iconst X (0) dX11_isItem_180 (by decide) ?_
            exact g_zret X E dX11_isItem_181 ⟨np_28, nnu_29⟩ 0 rfl ⟨rfl, hnn_31⟩ rfl
          · have c164_34n := inge' (a := nnu_29 0) (b := rn) c164_34 (by omega) (by omega)
            refine g_aload_n X dX11_isItem_167 rfl ?_
            refine g_get X uwX11 0 rfl rfl 3 (by decide) kl_X11_13 rfl rfl gwX11 dX11_isItem_168 ?_
            refine g_iconst X (1) dX11_isItem_171 (by decide) ?_
            refine g_iald' X 2 rfl (i := 1) rfl (by omega) (by omega) dX11_isItem_172 ?_
            refine g_toe (nI (nnu_29 1)) rfl ?_
            refine g_aload_n X dX11_isItem_173 rfl ?_
            refine g_get X uwX11 0 rfl rfl 5 (by decide) kl_X11_74 rfl rfl gwX11 dX11_isItem_174 ?_
            refine g_icmp_lt X 182 dX11_isItem_177 (by decide) (fun c177_35 => ?_) (fun c177_35 => ?_)
            · have c177_35n := ilt' (a := nnu_29 1) (b := rn) c177_35 (by omega) (by omega)
              exact absurd (by rw [hR]; exact ⟨rfl, Or.inr (Or.inl ⟨hl119, rfl, (show nnu_29 0 < rn by omega), (show nnu_29 1 < rn by omega), (show nnu_29 0 ≠ nnu_29 1 by omega)⟩)⟩) hno
            · have c177_35n := inlt' (a := nnu_29 1) (b := rn) c177_35 (by omega) (by omega)
              refine g_iconst X (0) dX11_isItem_180 (by decide) ?_
              exact g_zret X E dX11_isItem_181 ⟨np_28, nnu_29⟩ 0 rfl ⟨rfl, hnn_31⟩ rfl
    · refine g_iload_n X dX11_isItem_125 rfl ?_
      refine g_bipush X (119) dX11_isItem_126 (by decide) ?_
      refine g_icmp_ne X 200 dX11_isItem_128 (by decide) (fun c128_36 => ?_) (fun c128_36 => absurd c128_36 (tne (a := tf p) (b := 119) (by omega) (by omega) (by omega)))
      refine g_iload_n X dX11_isItem_200 rfl ?_
      refine g_bipush X (108) dX11_isItem_201 (by decide) ?_
      refine g_icmp_ne X 234 dX11_isItem_203 (by decide) (fun c203_37 => ?_) (fun c203_37 => ?_)
      · have c203_37n := ine' (a := tf p) (b := 108) c203_37 (by omega) (by omega)
        refine g_iconst X (0) dX11_isItem_234 (by decide) ?_
        exact g_zret X E dX11_isItem_235 ⟨p + 1, nuf⟩ 0 rfl ⟨rfl, hnu0⟩ rfl
      · have c203_37n := ieq' (a := tf p) (b := 108) c203_37 (by omega) (by omega)
        refine g_aload_n X dX11_isItem_206 rfl ?_
        refine g_get X uwX11 0 rfl rfl 6 (by decide) kl_X11_85 rfl rfl gwX11 dX11_isItem_207 ?_
        refine g_bipush X (9) dX11_isItem_210 (by decide) ?_
        refine g_icmp_eq X 234 dX11_isItem_212 (by decide) (fun c212_38 => ?_) (fun c212_38 => ?_)
        · have c212_38n := ieq' (a := rm_) (b := 9) c212_38 (by omega) (by omega)
          refine g_iconst X (0) dX11_isItem_234 (by decide) ?_
          exact g_zret X E dX11_isItem_235 ⟨p + 1, nuf⟩ 0 rfl ⟨rfl, hnu0⟩ rfl
        · have c212_38n := ine' (a := rm_) (b := 9) c212_38 (by omega) (by omega)
          refine g_aload_n X dX11_isItem_215 rfl ?_
          refine g_iconst X (3) dX11_isItem_216 (by decide) ?_
          refine g_callVi X (c_X11_isRow V mm mtx mnu mrc mrw mrl mki mwa mle mno mtr mse mba mim msi mfo mor mbo mma mbm mso x (p + 1) fa_ (nI rn) (nI rm_) cl_ ls_ ba_ km_ si_ fm_ tf nuf 3 (by omega) (by omega) (by omega) (by omega) (by omega)) mo_X11_isRow kl_X11_108 [0, 1, 2] [1, 2, 3, 0, 0, 0] rfl (by decide +kernel) rfl rfl (fun _ => Nat.le_of_ble_eq_true rfl) 0 11 rfl rfl (As := [.int 3]) (st := []) (cs' := (0, 0)) rfl rfl rfl rfl dX11_isItem_217 (fun r_43 u_39 hp_40 ws_42 hw_41 => ?_)
          obtain ⟨np_44, nnu_45⟩ := u_39
          obtain ⟨rfl, hrow_46, hnn_47⟩ : r_43 = rowB (rdN tf (x - (p + 1)) (p + 1) 0 0 0 nuf) 3 ∧ (rowB (rdN tf (x - (p + 1)) (p + 1) 0 0 0 nuf) 3 = 1 → rdN tf (x - (p + 1)) (p + 1) 0 0 0 nuf = (some np_44, 3, nnu_45)) ∧ (∀ j, j < 3 → nnu_45 j < 1000) := hp_40
          have hw_41x : ws_42 = [(mm, .inr (11, [.int (nI x), .ref mtx, .int (nI np_44), .ref mnu, .int fa_, .int (nI rn), .int (nI rm_), .ref mrc, .ref mrw, .ref mrl, .int cl_, .ref mki, .ref mwa, .int ls_, .ref mle, .ref mno, .ref mtr, .ref mse, .ref mba, .int ba_, .ref mim, .int km_, .int si_, .ref msi, .ref mfo, .int fm_, .ref mor, .ref mbo, .ref mma, .ref mbm, .ref mso])), (mtx, .inl (V.2.2.1, 200, .inl (nIf tf))), (mnu, .inl (V.2.2.1, 3, .inl (nIf nnu_45))), (mrc, .inl (V.2.2.1, 21, .inl (leF kr kw kg))), (mrw, .inl (V.2.2.1, 7, .inl rwb)), (mrl, .inl (V.2.2.1, 27, .inl (leF rl0 rl1 rl2)))] := hw_41.symm
          clear hw_41; subst hw_41x
          refine g_if_eq X 234 dX11_isItem_220 (by decide) (fun c220_48 => ?_) (fun c220_48 => ?_)
          · refine g_iconst X (0) dX11_isItem_234 (by decide) ?_
            exact g_zret X E dX11_isItem_235 ⟨np_44, nnu_45⟩ 0 rfl ⟨rfl, hnn_47⟩ rfl
          · have hR := hrow_46 (rowB_ne c220_48)
            have hb0 := hnn_47 0 (by omega)
            have hb1 := hnn_47 1 (by omega)
            have hb2 := hnn_47 2 (by omega)
            refine g_aload_n X dX11_isItem_223 rfl ?_
            refine g_get X uwX11 0 rfl rfl 3 (by decide) kl_X11_13 rfl rfl gwX11 dX11_isItem_224 ?_
            refine g_iconst X (0) dX11_isItem_227 (by decide) ?_
            refine g_iald' X 2 rfl (i := 0) rfl (by omega) (by omega) dX11_isItem_228 ?_
            refine g_toe (nI (nnu_45 0)) rfl ?_
            refine g_bipush X (13) dX11_isItem_229 (by decide) ?_
            refine g_icmp_le X 236 dX11_isItem_231 (by decide) (fun c231_49 => ?_) (fun c231_49 => ?_)
            · have c231_49n := ile' (a := nnu_45 0) (b := 13) c231_49 (by omega) (by omega)
              refine g_aload_n X dX11_isItem_236 rfl ?_
              refine g_get X uwX11 0 rfl rfl 3 (by decide) kl_X11_13 rfl rfl gwX11 dX11_isItem_237 ?_
              refine g_iconst X (1) dX11_isItem_240 (by decide) ?_
              refine g_iald' X 2 rfl (i := 1) rfl (by omega) (by omega) dX11_isItem_241 ?_
              refine g_toe (nI (nnu_45 1)) rfl ?_
              refine g_aload_n X dX11_isItem_242 rfl ?_
              refine g_get X uwX11 0 rfl rfl 3 (by decide) kl_X11_13 rfl rfl gwX11 dX11_isItem_243 ?_
              refine g_iconst X (2) dX11_isItem_246 (by decide) ?_
              refine g_iald' X 2 rfl (i := 2) rfl (by omega) (by omega) dX11_isItem_247 ?_
              refine g_toe (nI (nnu_45 2)) rfl ?_
              refine g_icmp_eq X 277 dX11_isItem_248 (by decide) (fun c248_50 => ?_) (fun c248_50 => ?_)
              · have c248_50n := ieq' (a := nnu_45 1) (b := nnu_45 2) c248_50 (by omega) (by omega)
                refine g_iconst X (0) dX11_isItem_277 (by decide) ?_
                exact g_zret X E dX11_isItem_278 ⟨np_44, nnu_45⟩ 0 rfl ⟨rfl, hnn_47⟩ rfl
              · have c248_50n := ine' (a := nnu_45 1) (b := nnu_45 2) c248_50 (by omega) (by omega)
                refine g_aload_n X dX11_isItem_251 rfl ?_
                refine g_get X uwX11 0 rfl rfl 3 (by decide) kl_X11_13 rfl rfl gwX11 dX11_isItem_252 ?_
                refine g_iconst X (1) dX11_isItem_255 (by decide) ?_
                refine g_iald' X 2 rfl (i := 1) rfl (by omega) (by omega) dX11_isItem_256 ?_
                refine g_toe (nI (nnu_45 1)) rfl ?_
                refine g_aload_n X dX11_isItem_257 rfl ?_
                refine g_get X uwX11 0 rfl rfl 5 (by decide) kl_X11_74 rfl rfl gwX11 dX11_isItem_258 ?_
                refine g_icmp_ge X 277 dX11_isItem_261 (by decide) (fun c261_51 => ?_) (fun c261_51 => ?_)
                · have c261_51n := ige' (a := nnu_45 1) (b := rn) c261_51 (by omega) (by omega)
                  refine g_iconst X (0) dX11_isItem_277 (by decide) ?_
                  exact g_zret X E dX11_isItem_278 ⟨np_44, nnu_45⟩ 0 rfl ⟨rfl, hnn_47⟩ rfl
                · have c261_51n := inge' (a := nnu_45 1) (b := rn) c261_51 (by omega) (by omega)
                  refine g_aload_n X dX11_isItem_264 rfl ?_
                  refine g_get X uwX11 0 rfl rfl 3 (by decide) kl_X11_13 rfl rfl gwX11 dX11_isItem_265 ?_
                  refine g_iconst X (2) dX11_isItem_268 (by decide) ?_
                  refine g_iald' X 2 rfl (i := 2) rfl (by omega) (by omega) dX11_isItem_269 ?_
                  refine g_toe (nI (nnu_45 2)) rfl ?_
                  refine g_aload_n X dX11_isItem_270 rfl ?_
                  refine g_get X uwX11 0 rfl rfl 5 (by decide) kl_X11_74 rfl rfl gwX11 dX11_isItem_271 ?_
                  refine g_icmp_lt X 279 dX11_isItem_274 (by decide) (fun c274_52 => ?_) (fun c274_52 => ?_)
                  · have c274_52n := ilt' (a := nnu_45 2) (b := rn) c274_52 (by omega) (by omega)
                    exact absurd (by rw [hR]; exact ⟨rfl, Or.inr (Or.inr ⟨(show tf p = 108 by omega), rfl, (show rm_ < 9 by omega), (show nnu_45 0 < 14 by omega), (show nnu_45 1 < rn by omega), (show nnu_45 2 < rn by omega), (show nnu_45 1 ≠ nnu_45 2 by omega)⟩)⟩) hno
                  · have c274_52n := inlt' (a := nnu_45 2) (b := rn) c274_52 (by omega) (by omega)
                    refine g_iconst X (0) dX11_isItem_277 (by decide) ?_
                    exact g_zret X E dX11_isItem_278 ⟨np_44, nnu_45⟩ 0 rfl ⟨rfl, hnn_47⟩ rfl
            · have c231_49n := inle' (a := nnu_45 0) (b := 13) c231_49 (by omega) (by omega)
              refine g_iconst X (0) dX11_isItem_234 (by decide) ?_
              exact g_zret X E dX11_isItem_235 ⟨np_44, nnu_45⟩ 0 rfl ⟨rfl, hnn_47⟩ rfl

set_option maxHeartbeats 4000000 in
set_option maxRecDepth 100000 in
theorem c_X11_isRead (V : gV) (mm : Nat) (mtx : Nat) (mnu : Nat) (mrc : Nat) (mrw : Nat) (mrl : Nat) (mki : Nat) (mwa : Nat) (mle : Nat) (mno : Nat) (mtr : Nat) (mse : Nat) (mba : Nat) (mim : Nat) (msi : Nat) (mfo : Nat) (mor : Nat) (mbo : Nat) (mma : Nat) (mbm : Nat) (mso : Nat) (x : Nat) (po_ : Int32) (fa_ : Int32) (rcl_ : Int32) (rle_ : Int32) (cl_ : Int32) (ls_ : Int32) (ba_ : Int32) (km_ : Int32) (si_ : Int32) (fm_ : Int32) (tf : Nat → Nat) (nuf : Nat → Nat) (kr : Nat → Nat) (kw : Nat → Nat) (kg : Nat → Nat) (rwb : Nat → Int32) (rl0 : Nat → Nat) (rl1 : Nat → Nat) (rl2 : Nat → Nat) (hx : x ≤ 200) (hl : ∀ j, j < x → tf j < 1000) (hnu0 : ∀ j, j < 3 → nuf j < 1000) : Ki V yX11_isRead cX11_isRead 1 .boolean ({ frames := 3, cells := 0, slots := 0, locals := 67 }) [.ref mm] [(mm, .inr (11, [.int (nI x), .ref mtx, .int po_, .ref mnu, .int fa_, .int rcl_, .int rle_, .ref mrc, .ref mrw, .ref mrl, .int cl_, .ref mki, .ref mwa, .int ls_, .ref mle, .ref mno, .ref mtr, .ref mse, .ref mba, .int ba_, .ref mim, .int km_, .int si_, .ref msi, .ref mfo, .int fm_, .ref mor, .ref mbo, .ref mma, .ref mbm, .ref mso])), (mtx, .inl (V.2.2.1, 200, .inl (nIf tf))), (mnu, .inl (V.2.2.1, 3, .inl (nIf nuf))), (mrc, .inl (V.2.2.1, 21, .inl (leF kr kw kg))), (mrw, .inl (V.2.2.1, 7, .inl rwb)), (mrl, .inl (V.2.2.1, 27, .inl (leF rl0 rl1 rl2)))] (fun (r : Int32) (u : Nat × Int32 × (Nat → Nat) × Nat × Nat × (Nat → Nat) × (Nat → Nat) × (Nat → Nat) × (Nat → Int32) × (Nat → Nat) × (Nat → Nat) × (Nat → Nat)) => r = (if (rdM tf x 200 0 nuf (0, 0, kr, kw, kg, rwb, rl0, rl1, rl2)).1 = none then 1 else 0) ∧ (∀ q, (rdM tf x 200 0 nuf (0, 0, kr, kw, kg, rwb, rl0, rl1, rl2)).1 = some q → u.2.1 = nI q) ∧ ((rdM tf x 200 0 nuf (0, 0, kr, kw, kg, rwb, rl0, rl1, rl2)).1 = none → (u.2.2.2.1, u.2.2.2.2.1, u.2.2.2.2.2.1, u.2.2.2.2.2.2.1, u.2.2.2.2.2.2.2.1, u.2.2.2.2.2.2.2.2.1, u.2.2.2.2.2.2.2.2.2.1, u.2.2.2.2.2.2.2.2.2.2.1, u.2.2.2.2.2.2.2.2.2.2.2) = (rdM tf x 200 0 nuf (0, 0, kr, kw, kg, rwb, rl0, rl1, rl2)).2) ∧ (∀ j, j < 3 → u.2.2.1 j < 1000) ∧ u.2.2.2.1 ≤ 7 ∧ u.2.2.2.2.1 ≤ 9) (fun u => [(mm, .inr (11, [.int (nI x), .ref mtx, .int (nI u.1), .ref mnu, .int u.2.1, .int (nI u.2.2.2.1), .int (nI u.2.2.2.2.1), .ref mrc, .ref mrw, .ref mrl, .int cl_, .ref mki, .ref mwa, .int ls_, .ref mle, .ref mno, .ref mtr, .ref mse, .ref mba, .int ba_, .ref mim, .int km_, .int si_, .ref msi, .ref mfo, .int fm_, .ref mor, .ref mbo, .ref mma, .ref mbm, .ref mso])), (mtx, .inl (V.2.2.1, 200, .inl (nIf tf))), (mnu, .inl (V.2.2.1, 3, .inl (nIf u.2.2.1))), (mrc, .inl (V.2.2.1, 21, .inl (leF u.2.2.2.2.2.1 u.2.2.2.2.2.2.1 u.2.2.2.2.2.2.2.1))), (mrw, .inl (V.2.2.1, 7, .inl u.2.2.2.2.2.2.2.2.1)), (mrl, .inl (V.2.2.1, 27, .inl (leF u.2.2.2.2.2.2.2.2.2.1 u.2.2.2.2.2.2.2.2.2.2.1 u.2.2.2.2.2.2.2.2.2.2.2)))]) := by
  refine Ki.of [some (.ref mm)] (by decide) (Nat.le_of_ble_eq_true rfl) rfl rfl ?_
  intro Z X E
  have X : gX V Z RX11 cX11_isRead 1 ({ frames := 3, cells := 0, slots := 0, locals := 67 }) := X
  refine g_aload_n X dX11_isRead_0 rfl ?_
  refine g_iconst X (0) dX11_isRead_1 (by decide) ?_
  refine g_put X uwX11 tyX11 tyX11_ok nmX11 0 rfl rfl 2 (by decide) kl_X11_101 rfl rfl rfl rfl (Nat.le_of_ble_eq_true rfl) gwX11 (ws' := [(mm, .inr (11, [.int (nI x), .ref mtx, .int 0, .ref mnu, .int fa_, .int rcl_, .int rle_, .ref mrc, .ref mrw, .ref mrl, .int cl_, .ref mki, .ref mwa, .int ls_, .ref mle, .ref mno, .ref mtr, .ref mse, .ref mba, .int ba_, .ref mim, .int km_, .int si_, .ref msi, .ref mfo, .int fm_, .ref mor, .ref mbo, .ref mma, .ref mbm, .ref mso])), (mtx, .inl (V.2.2.1, 200, .inl (nIf tf))), (mnu, .inl (V.2.2.1, 3, .inl (nIf nuf))), (mrc, .inl (V.2.2.1, 21, .inl (leF kr kw kg))), (mrw, .inl (V.2.2.1, 7, .inl rwb)), (mrl, .inl (V.2.2.1, 27, .inl (leF rl0 rl1 rl2)))]) rfl dX11_isRead_2 ?_
  refine g_aload_n X dX11_isRead_5 rfl ?_
  refine g_iconst X (0) dX11_isRead_6 (by decide) ?_
  refine g_put X uwX11 tyX11 tyX11_ok nmX11 0 rfl rfl 5 (by decide) kl_X11_74 rfl rfl rfl rfl (Nat.le_of_ble_eq_true rfl) gwX11 (ws' := [(mm, .inr (11, [.int (nI x), .ref mtx, .int 0, .ref mnu, .int fa_, .int 0, .int rle_, .ref mrc, .ref mrw, .ref mrl, .int cl_, .ref mki, .ref mwa, .int ls_, .ref mle, .ref mno, .ref mtr, .ref mse, .ref mba, .int ba_, .ref mim, .int km_, .int si_, .ref msi, .ref mfo, .int fm_, .ref mor, .ref mbo, .ref mma, .ref mbm, .ref mso])), (mtx, .inl (V.2.2.1, 200, .inl (nIf tf))), (mnu, .inl (V.2.2.1, 3, .inl (nIf nuf))), (mrc, .inl (V.2.2.1, 21, .inl (leF kr kw kg))), (mrw, .inl (V.2.2.1, 7, .inl rwb)), (mrl, .inl (V.2.2.1, 27, .inl (leF rl0 rl1 rl2)))]) rfl dX11_isRead_7 ?_
  refine g_aload_n X dX11_isRead_10 rfl ?_
  refine g_iconst X (0) dX11_isRead_11 (by decide) ?_
  refine g_put X uwX11 tyX11 tyX11_ok nmX11 0 rfl rfl 6 (by decide) kl_X11_85 rfl rfl rfl rfl (Nat.le_of_ble_eq_true rfl) gwX11 (ws' := [(mm, .inr (11, [.int (nI x), .ref mtx, .int 0, .ref mnu, .int fa_, .int 0, .int 0, .ref mrc, .ref mrw, .ref mrl, .int cl_, .ref mki, .ref mwa, .int ls_, .ref mle, .ref mno, .ref mtr, .ref mse, .ref mba, .int ba_, .ref mim, .int km_, .int si_, .ref msi, .ref mfo, .int fm_, .ref mor, .ref mbo, .ref mma, .ref mbm, .ref mso])), (mtx, .inl (V.2.2.1, 200, .inl (nIf tf))), (mnu, .inl (V.2.2.1, 3, .inl (nIf nuf))), (mrc, .inl (V.2.2.1, 21, .inl (leF kr kw kg))), (mrw, .inl (V.2.2.1, 7, .inl rwb)), (mrl, .inl (V.2.2.1, 27, .inl (leF rl0 rl1 rl2)))]) rfl dX11_isRead_12 ?_
  have loop15 : ∀ (d15 : Nat) (f : Nat) (p : Nat) (fa1 : Int32) (n1 : Nat) (m1 : Nat) (nu1 : Nat → Nat) (kr1 : Nat → Nat) (kw1 : Nat → Nat) (kg1 : Nat → Nat) (wb1 : Nat → Int32) (l0 : Nat → Nat) (l1 : Nat → Nat) (l2 : Nat → Nat) (hpx : p ≤ x) (hf : x - p ≤ f) (hn : n1 ≤ 7) (hm : m1 ≤ 9) (hnu1 : ∀ j, j < 3 → nu1 j < 1000) (hrd : rdM tf x 200 0 nuf (0, 0, kr, kw, kg, rwb, rl0, rl1, rl2) = rdM tf x f p nu1 (n1, m1, kr1, kw1, kg1, wb1, l0, l1, l2)), x - p < d15 → G V Z 1 (0, 0) [(mm, .inr (11, [.int (nI x), .ref mtx, .int (nI p), .ref mnu, .int fa1, .int (nI n1), .int (nI m1), .ref mrc, .ref mrw, .ref mrl, .int cl_, .ref mki, .ref mwa, .int ls_, .ref mle, .ref mno, .ref mtr, .ref mse, .ref mba, .int ba_, .ref mim, .int km_, .int si_, .ref msi, .ref mfo, .int fm_, .ref mor, .ref mbo, .ref mma, .ref mbm, .ref mso])), (mtx, .inl (V.2.2.1, 200, .inl (nIf tf))), (mnu, .inl (V.2.2.1, 3, .inl (nIf nu1))), (mrc, .inl (V.2.2.1, 21, .inl (leF kr1 kw1 kg1))), (mrw, .inl (V.2.2.1, 7, .inl wb1)), (mrl, .inl (V.2.2.1, 27, .inl (leF l0 l1 l2)))] 15 [some (.ref mm)] [] := by
    intro d15
    induction d15 with
    | zero => intro f p fa1 n1 m1 nu1 kr1 kw1 kg1 wb1 l0 l1 l2 hpx hf hn hm hnu1 hrd hmu; exact absurd hmu (Nat.not_lt_zero _)
    | succ d15 ih15 =>
      intro f p fa1 n1 m1 nu1 kr1 kw1 kg1 wb1 l0 l1 l2 hpx hf hn hm hnu1 hrd hmu
      refine g_aload_n X dX11_isRead_15 rfl ?_
      refine g_get X uwX11 0 rfl rfl 2 (by decide) kl_X11_101 rfl rfl gwX11 dX11_isRead_16 ?_
      refine g_aload_n X dX11_isRead_19 rfl ?_
      refine g_get X uwX11 0 rfl rfl 0 (by decide) kl_X11_98 rfl rfl gwX11 dX11_isRead_20 ?_
      refine g_icmp_ge X 43 dX11_isRead_23 (by decide) (fun c23_1 => ?_) (fun c23_1 => ?_)
      · have c23_1n := ige' (a := p) (b := x) c23_1 (by omega) (by omega)
        refine g_iconst X (1) dX11_isRead_43 (by decide) ?_
        exact g_zret X E dX11_isRead_44 ⟨p, fa1, nu1, n1, m1, kr1, kw1, kg1, wb1, l0, l1, l2⟩ 1 rfl ⟨(by rw [hrd, rdM_end (by omega)]; rfl), (fun q h => by rw [hrd, rdM_end (by omega)] at h; cases h), (fun _ => by rw [hrd, rdM_end (by omega)]), hnu1, ⟨hn, hm⟩⟩ rfl
      · have c23_1n := inge' (a := p) (b := x) c23_1 (by omega) (by omega)
        refine g_aload_n X dX11_isRead_26 rfl ?_
        refine g_aload_n X dX11_isRead_27 rfl ?_
        refine g_get X uwX11 0 rfl rfl 2 (by decide) kl_X11_101 rfl rfl gwX11 dX11_isRead_28 ?_
        refine g_put X uwX11 tyX11 tyX11_ok nmX11 0 rfl rfl 4 (by decide) kl_X11_112 rfl rfl rfl rfl (Nat.le_of_ble_eq_true rfl) gwX11 (ws' := [(mm, .inr (11, [.int (nI x), .ref mtx, .int (nI p), .ref mnu, .int (nI p), .int (nI n1), .int (nI m1), .ref mrc, .ref mrw, .ref mrl, .int cl_, .ref mki, .ref mwa, .int ls_, .ref mle, .ref mno, .ref mtr, .ref mse, .ref mba, .int ba_, .ref mim, .int km_, .int si_, .ref msi, .ref mfo, .int fm_, .ref mor, .ref mbo, .ref mma, .ref mbm, .ref mso])), (mtx, .inl (V.2.2.1, 200, .inl (nIf tf))), (mnu, .inl (V.2.2.1, 3, .inl (nIf nu1))), (mrc, .inl (V.2.2.1, 21, .inl (leF kr1 kw1 kg1))), (mrw, .inl (V.2.2.1, 7, .inl wb1)), (mrl, .inl (V.2.2.1, 27, .inl (leF l0 l1 l2)))]) rfl dX11_isRead_31 ?_
        by_cases hit : (rdN tf (x - (p + 1)) (p + 1) 0 0 0 nu1).1.isSome = true ∧ itemOK (tf p) (rdN tf (x - (p + 1)) (p + 1) 0 0 0 nu1).2.1 (rdN tf (x - (p + 1)) (p + 1) 0 0 0 nu1).2.2 n1 m1
        · refine g_aload_n X dX11_isRead_34 rfl ?_
          obtain ⟨q, hq⟩ := Option.isSome_iff_exists.mp hit.1; have hle := rdN_le hq
          refine g_callVi X (c_X11_isItem_yes V mm mtx mnu mrc mrw mrl mki mwa mle mno mtr mse mba mim msi mfo mor mbo mma mbm mso x p (nI p) n1 m1 cl_ ls_ ba_ km_ si_ fm_ tf nu1 kr1 kw1 kg1 wb1 l0 l1 l2 q (by omega) (by omega) (by omega) (by omega) (by omega) hnu1 hq hit.2) mo_X11_isItem kl_X11_115 [0, 1, 2, 3, 4, 5] [1, 2, 3, 4, 5, 6] rfl (by decide +kernel) rfl rfl (fun _ => Nat.le_of_ble_eq_true rfl) 0 11 rfl rfl (As := []) (st := []) (cs' := (0, 0)) rfl rfl rfl rfl dX11_isRead_35 (fun r_6 u_2 hp_3 ws_5 hw_4 => ?_)
          obtain ⟨np_7, nnu_8, nn_9, nm_10, nkr_11, nkw_12, nkg_13, nwb_14, nl0_15, nl1_16, nl2_17⟩ := u_2
          obtain ⟨rfl, hnp_18, hnq_19, hst_20⟩ : r_6 = 1 ∧ np_7 = q ∧ nnu_8 = (rdN tf (x - (p + 1)) (p + 1) 0 0 0 nu1).2.2 ∧ (nn_9, nm_10, nkr_11, nkw_12, nkg_13, nwb_14, nl0_15, nl1_16, nl2_17) = itemM (tf p) (rdN tf (x - (p + 1)) (p + 1) 0 0 0 nu1).2.2 (n1, m1, kr1, kw1, kg1, wb1, l0, l1, l2) := hp_3
          have hw_4x : ws_5 = [(mm, .inr (11, [.int (nI x), .ref mtx, .int (nI np_7), .ref mnu, .int (nI p), .int (nI nn_9), .int (nI nm_10), .ref mrc, .ref mrw, .ref mrl, .int cl_, .ref mki, .ref mwa, .int ls_, .ref mle, .ref mno, .ref mtr, .ref mse, .ref mba, .int ba_, .ref mim, .int km_, .int si_, .ref msi, .ref mfo, .int fm_, .ref mor, .ref mbo, .ref mma, .ref mbm, .ref mso])), (mtx, .inl (V.2.2.1, 200, .inl (nIf tf))), (mnu, .inl (V.2.2.1, 3, .inl (nIf nnu_8))), (mrc, .inl (V.2.2.1, 21, .inl (leF nkr_11 nkw_12 nkg_13))), (mrw, .inl (V.2.2.1, 7, .inl nwb_14)), (mrl, .inl (V.2.2.1, 27, .inl (leF nl0_15 nl1_16 nl2_17)))] := hw_4.symm
          clear hw_4; subst hw_4x
          have hni := itemM_n (kr := kr1) (kw := kw1) (kg := kg1) (wb := wb1) (ld := l0) (te := l1) (pu := l2) hit.2 hn hm; rw [← hst_20] at hni; dsimp only at hni
          refine g_if_ne X 15 dX11_isRead_38 (by decide) (fun c38_21 => ?_) (fun c38_21 => absurd c38_21 (by decide))
          exact ih15 (f - 1) np_7 (nI p) nn_9 nm_10 nnu_8 nkr_11 nkw_12 nkg_13 nwb_14 nl0_15 nl1_16 nl2_17 (by omega) (by omega) hni.1 hni.2 (by rw [hnq_19]; exact rdN_nu (fun _ => rfl) (by omega) (by omega) (by omega) hnu1) (by rw [hrd, rdM_s (by omega) (by omega) hq hit.2, hnp_18, hnq_19, hst_20]) (by omega)
        · refine g_aload_n X dX11_isRead_34 rfl ?_
          refine g_callVi X (c_X11_isItem_no V mm mtx mnu mrc mrw mrl mki mwa mle mno mtr mse mba mim msi mfo mor mbo mma mbm mso x p (nI p) n1 m1 cl_ ls_ ba_ km_ si_ fm_ tf nu1 kr1 kw1 kg1 wb1 l0 l1 l2 (by omega) (by omega) (by omega) (by omega) (by omega) hnu1 hit) mo_X11_isItem kl_X11_115 [0, 1, 2, 3, 4, 5] [1, 2, 3, 4, 5, 6] rfl (by decide +kernel) rfl rfl (fun _ => Nat.le_of_ble_eq_true rfl) 0 11 rfl rfl (As := []) (st := []) (cs' := (0, 0)) rfl rfl rfl rfl dX11_isRead_35 (fun r_26 u_22 hp_23 ws_25 hw_24 => ?_)
          obtain ⟨np_27, nnu_28⟩ := u_22
          obtain ⟨rfl, hnn_29⟩ : r_26 = 0 ∧ (∀ j, j < 3 → nnu_28 j < 1000) := hp_23
          have hw_24x : ws_25 = [(mm, .inr (11, [.int (nI x), .ref mtx, .int (nI np_27), .ref mnu, .int (nI p), .int (nI n1), .int (nI m1), .ref mrc, .ref mrw, .ref mrl, .int cl_, .ref mki, .ref mwa, .int ls_, .ref mle, .ref mno, .ref mtr, .ref mse, .ref mba, .int ba_, .ref mim, .int km_, .int si_, .ref msi, .ref mfo, .int fm_, .ref mor, .ref mbo, .ref mma, .ref mbm, .ref mso])), (mtx, .inl (V.2.2.1, 200, .inl (nIf tf))), (mnu, .inl (V.2.2.1, 3, .inl (nIf nnu_28))), (mrc, .inl (V.2.2.1, 21, .inl (leF kr1 kw1 kg1))), (mrw, .inl (V.2.2.1, 7, .inl wb1)), (mrl, .inl (V.2.2.1, 27, .inl (leF l0 l1 l2)))] := hw_24.symm
          clear hw_24; subst hw_24x
          refine g_if_ne X 15 dX11_isRead_38 (by decide) (fun c38_30 => absurd rfl c38_30) (fun c38_30 => ?_)
          refine g_iconst X (0) dX11_isRead_41 (by decide) ?_
          exact g_zret X E dX11_isRead_42 ⟨np_27, nI p, nnu_28, n1, m1, kr1, kw1, kg1, wb1, l0, l1, l2⟩ 0 rfl ⟨(by rw [hrd, rdM_no (by omega) (by omega) hit]; rfl), (fun q h => by rw [hrd, rdM_no (by omega) (by omega) hit] at h; cases h; rfl), (fun h => by rw [hrd, rdM_no (by omega) (by omega) hit] at h; cases h), hnn_29, ⟨hn, hm⟩⟩ rfl
  exact loop15 _ 200 0 fa_ 0 0 nuf kr kw kg rwb rl0 rl1 rl2 (Nat.zero_le _) (by omega) (by omega) (by omega) hnu0 rfl (Nat.lt_succ_self _)

set_option maxHeartbeats 4000000 in
set_option maxRecDepth 100000 in
theorem w_fault (V : gV) (mm : Nat) (mtx : Nat) (mnu : Nat) (mrc : Nat) (mrw : Nat) (mrl : Nat) (mki : Nat) (mwa : Nat) (mle : Nat) (mno : Nat) (mtr : Nat) (mse : Nat) (mba : Nat) (mim : Nat) (msi : Nat) (mfo : Nat) (mor : Nat) (mbo : Nat) (mma : Nat) (mbm : Nat) (mso : Nat) (x : Nat) (po_ : Int32) (fa_ : Int32) (rcl_ : Int32) (rle_ : Int32) (cl_ : Int32) (ls_ : Int32) (ba_ : Int32) (km_ : Int32) (si_ : Int32) (fm_ : Int32) (tf : Nat → Nat) (nuf : Nat → Nat) (kr : Nat → Nat) (kw : Nat → Nat) (kg : Nat → Nat) (rwb : Nat → Int32) (rl0 : Nat → Nat) (rl1 : Nat → Nat) (rl2 : Nat → Nat) (hx : x ≤ 200) (hl : ∀ j, j < x → tf j < 1000) (hnu0 : ∀ j, j < 3 → nuf j < 1000) : Ki V yX11_fault cX11_fault 1 .int ({ frames := 4, cells := 0, slots := 0, locals := 87 }) [.ref mm] [(mm, .inr (11, [.int (nI x), .ref mtx, .int po_, .ref mnu, .int fa_, .int rcl_, .int rle_, .ref mrc, .ref mrw, .ref mrl, .int cl_, .ref mki, .ref mwa, .int ls_, .ref mle, .ref mno, .ref mtr, .ref mse, .ref mba, .int ba_, .ref mim, .int km_, .int si_, .ref msi, .ref mfo, .int fm_, .ref mor, .ref mbo, .ref mma, .ref mbm, .ref mso])), (mtx, .inl (V.2.2.1, 200, .inl (nIf tf))), (mnu, .inl (V.2.2.1, 3, .inl (nIf nuf))), (mrc, .inl (V.2.2.1, 21, .inl (leF kr kw kg))), (mrw, .inl (V.2.2.1, 7, .inl rwb)), (mrl, .inl (V.2.2.1, 27, .inl (leF rl0 rl1 rl2)))] (fun (r : Int32) (u : Nat × Int32 × (Nat → Nat) × Nat × Nat × (Nat → Nat) × (Nat → Nat) × (Nat → Nat) × (Nat → Int32) × (Nat → Nat) × (Nat → Nat) × (Nat → Nat)) => r = resI (rdM tf x 200 0 nuf (0, 0, kr, kw, kg, rwb, rl0, rl1, rl2)).1 ∧ (∀ j, j < 3 → u.2.2.1 j < 1000)) (fun u => [(mm, .inr (11, [.int (nI x), .ref mtx, .int (nI u.1), .ref mnu, .int u.2.1, .int (nI u.2.2.2.1), .int (nI u.2.2.2.2.1), .ref mrc, .ref mrw, .ref mrl, .int cl_, .ref mki, .ref mwa, .int ls_, .ref mle, .ref mno, .ref mtr, .ref mse, .ref mba, .int ba_, .ref mim, .int km_, .int si_, .ref msi, .ref mfo, .int fm_, .ref mor, .ref mbo, .ref mma, .ref mbm, .ref mso])), (mtx, .inl (V.2.2.1, 200, .inl (nIf tf))), (mnu, .inl (V.2.2.1, 3, .inl (nIf u.2.2.1))), (mrc, .inl (V.2.2.1, 21, .inl (leF u.2.2.2.2.2.1 u.2.2.2.2.2.2.1 u.2.2.2.2.2.2.2.1))), (mrw, .inl (V.2.2.1, 7, .inl u.2.2.2.2.2.2.2.2.1)), (mrl, .inl (V.2.2.1, 27, .inl (leF u.2.2.2.2.2.2.2.2.2.1 u.2.2.2.2.2.2.2.2.2.2.1 u.2.2.2.2.2.2.2.2.2.2.2)))]) := by
  refine Ki.of [some (.ref mm)] (by decide) (Nat.le_of_ble_eq_true rfl) rfl rfl ?_
  intro Z X E
  have X : gX V Z RX11 cX11_fault 1 ({ frames := 4, cells := 0, slots := 0, locals := 87 }) := X
  by_cases hz : (rdM tf x 200 0 nuf (0, 0, kr, kw, kg, rwb, rl0, rl1, rl2)).1 = none
  · refine g_aload_n X dX11_fault_0 rfl ?_
    refine g_callVi X (c_X11_isRead V mm mtx mnu mrc mrw mrl mki mwa mle mno mtr mse mba mim msi mfo mor mbo mma mbm mso x po_ fa_ rcl_ rle_ cl_ ls_ ba_ km_ si_ fm_ tf nuf kr kw kg rwb rl0 rl1 rl2 (by omega) (by omega) hnu0) mo_X11_isRead kl_X11_119 [0, 1, 2, 3, 4, 5] [1, 2, 3, 4, 5, 6] rfl (by decide +kernel) rfl rfl (fun _ => Nat.le_of_ble_eq_true rfl) 0 11 rfl rfl (As := []) (st := []) (cs' := (0, 0)) rfl rfl rfl rfl dX11_fault_1 (fun r_5 u_1 hp_2 ws_4 hw_3 => ?_)
    obtain ⟨np_6, nfa_7, nnu_8, nn_9, nm_10, nkr_11, nkw_12, nkg_13, nwb_14, nl0_15, nl1_16, nl2_17⟩ := u_1
    obtain ⟨rfl, hfa_18, hst_19, hnn_20, hnb_21⟩ : r_5 = (if (rdM tf x 200 0 nuf (0, 0, kr, kw, kg, rwb, rl0, rl1, rl2)).1 = none then 1 else 0) ∧ (∀ q, (rdM tf x 200 0 nuf (0, 0, kr, kw, kg, rwb, rl0, rl1, rl2)).1 = some q → nfa_7 = nI q) ∧ ((rdM tf x 200 0 nuf (0, 0, kr, kw, kg, rwb, rl0, rl1, rl2)).1 = none → (nn_9, nm_10, nkr_11, nkw_12, nkg_13, nwb_14, nl0_15, nl1_16, nl2_17) = (rdM tf x 200 0 nuf (0, 0, kr, kw, kg, rwb, rl0, rl1, rl2)).2) ∧ (∀ j, j < 3 → nnu_8 j < 1000) ∧ nn_9 ≤ 7 ∧ nm_10 ≤ 9 := hp_2
    have hw_3x : ws_4 = [(mm, .inr (11, [.int (nI x), .ref mtx, .int (nI np_6), .ref mnu, .int nfa_7, .int (nI nn_9), .int (nI nm_10), .ref mrc, .ref mrw, .ref mrl, .int cl_, .ref mki, .ref mwa, .int ls_, .ref mle, .ref mno, .ref mtr, .ref mse, .ref mba, .int ba_, .ref mim, .int km_, .int si_, .ref msi, .ref mfo, .int fm_, .ref mor, .ref mbo, .ref mma, .ref mbm, .ref mso])), (mtx, .inl (V.2.2.1, 200, .inl (nIf tf))), (mnu, .inl (V.2.2.1, 3, .inl (nIf nnu_8))), (mrc, .inl (V.2.2.1, 21, .inl (leF nkr_11 nkw_12 nkg_13))), (mrw, .inl (V.2.2.1, 7, .inl nwb_14)), (mrl, .inl (V.2.2.1, 27, .inl (leF nl0_15 nl1_16 nl2_17)))] := hw_3.symm
    clear hw_3; subst hw_3x
    refine g_if_eq X 12 dX11_fault_4 (by decide) (fun c4_22 => absurd c4_22 (by rw [if_pos hz]; decide)) (fun c4_22 => ?_)
    refine g_bipush X (-4) dX11_fault_7 (by decide) ?_
    refine g_goto X 16 dX11_fault_9 (by decide) ?_
    exact g_iret X E dX11_fault_16 ⟨np_6, nfa_7, nnu_8, nn_9, nm_10, nkr_11, nkw_12, nkg_13, nwb_14, nl0_15, nl1_16, nl2_17⟩ (-4) ⟨(by rw [hz]; rfl), hnn_20⟩ rfl
  · refine g_aload_n X dX11_fault_0 rfl ?_
    refine g_callVi X (c_X11_isRead V mm mtx mnu mrc mrw mrl mki mwa mle mno mtr mse mba mim msi mfo mor mbo mma mbm mso x po_ fa_ rcl_ rle_ cl_ ls_ ba_ km_ si_ fm_ tf nuf kr kw kg rwb rl0 rl1 rl2 (by omega) (by omega) hnu0) mo_X11_isRead kl_X11_119 [0, 1, 2, 3, 4, 5] [1, 2, 3, 4, 5, 6] rfl (by decide +kernel) rfl rfl (fun _ => Nat.le_of_ble_eq_true rfl) 0 11 rfl rfl (As := []) (st := []) (cs' := (0, 0)) rfl rfl rfl rfl dX11_fault_1 (fun r_27 u_23 hp_24 ws_26 hw_25 => ?_)
    obtain ⟨np_28, nfa_29, nnu_30, nn_31, nm_32, nkr_33, nkw_34, nkg_35, nwb_36, nl0_37, nl1_38, nl2_39⟩ := u_23
    obtain ⟨rfl, hfa_40, hst_41, hnn_42, hnb_43⟩ : r_27 = (if (rdM tf x 200 0 nuf (0, 0, kr, kw, kg, rwb, rl0, rl1, rl2)).1 = none then 1 else 0) ∧ (∀ q, (rdM tf x 200 0 nuf (0, 0, kr, kw, kg, rwb, rl0, rl1, rl2)).1 = some q → nfa_29 = nI q) ∧ ((rdM tf x 200 0 nuf (0, 0, kr, kw, kg, rwb, rl0, rl1, rl2)).1 = none → (nn_31, nm_32, nkr_33, nkw_34, nkg_35, nwb_36, nl0_37, nl1_38, nl2_39) = (rdM tf x 200 0 nuf (0, 0, kr, kw, kg, rwb, rl0, rl1, rl2)).2) ∧ (∀ j, j < 3 → nnu_30 j < 1000) ∧ nn_31 ≤ 7 ∧ nm_32 ≤ 9 := hp_24
    have hw_25x : ws_26 = [(mm, .inr (11, [.int (nI x), .ref mtx, .int (nI np_28), .ref mnu, .int nfa_29, .int (nI nn_31), .int (nI nm_32), .ref mrc, .ref mrw, .ref mrl, .int cl_, .ref mki, .ref mwa, .int ls_, .ref mle, .ref mno, .ref mtr, .ref mse, .ref mba, .int ba_, .ref mim, .int km_, .int si_, .ref msi, .ref mfo, .int fm_, .ref mor, .ref mbo, .ref mma, .ref mbm, .ref mso])), (mtx, .inl (V.2.2.1, 200, .inl (nIf tf))), (mnu, .inl (V.2.2.1, 3, .inl (nIf nnu_30))), (mrc, .inl (V.2.2.1, 21, .inl (leF nkr_33 nkw_34 nkg_35))), (mrw, .inl (V.2.2.1, 7, .inl nwb_36)), (mrl, .inl (V.2.2.1, 27, .inl (leF nl0_37 nl1_38 nl2_39)))] := hw_25.symm
    clear hw_25; subst hw_25x
    refine g_if_eq X 12 dX11_fault_4 (by decide) (fun c4_44 => ?_) (fun c4_44 => absurd (by rw [if_neg hz]) c4_44)
    refine g_aload_n X dX11_fault_12 rfl ?_
    refine g_get X uwX11 0 rfl rfl 4 (by decide) kl_X11_112 rfl rfl gwX11 dX11_fault_13 ?_
    exact g_iret X E dX11_fault_16 ⟨np_28, nfa_29, nnu_30, nn_31, nm_32, nkr_33, nkw_34, nkg_35, nwb_36, nl0_37, nl1_38, nl2_39⟩ nfa_29 ⟨(by cases hc : (rdM tf x 200 0 nuf (0, 0, kr, kw, kg, rwb, rl0, rl1, rl2)).1 with | none => exact absurd hc hz | some q => exact hfa_40 q hc), hnn_42⟩ rfl
