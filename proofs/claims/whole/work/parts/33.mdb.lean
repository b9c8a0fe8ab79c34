set_option maxHeartbeats 4000000 in
set_option maxRecDepth 100000 in
theorem c_X11_noonOf (V : gV) (mm : Nat) (mtx : Nat) (mnu : Nat) (mrc : Nat) (mrw : Nat) (mrl : Nat) (mki : Nat) (mwa : Nat) (mle : Nat) (mno : Nat) (mtr : Nat) (mse : Nat) (mba : Nat) (mim : Nat) (msi : Nat) (mfo : Nat) (mor : Nat) (mbo : Nat) (mma : Nat) (mbm : Nat) (mso : Nat) (le_ : Int32) (po_ : Int32) (fa_ : Int32) (rcl_ : Int32) (rle_ : Int32) (n : Nat) (ls_ : Int32) (ba_ : Int32) (km_ : Int32) (si_ : Int32) (fm_ : Int32) (so : Nat → Int32) (day : Int32) (w : Nat → Int32) (g : Nat → Int32) (sa : Nat) (hn : n ≤ 7) (h1n : 1 ≤ n) : Ki V yX11_noonOf cX11_noonOf 4 .int ({ frames := 0, cells := 0, slots := 0, locals := 0 }) [.ref mm, .ref sa] [(mm, .inr (11, [.int le_, .ref mtx, .int po_, .ref mnu, .int fa_, .int rcl_, .int rle_, .ref mrc, .ref mrw, .ref mrl, .int (nI n), .ref mki, .ref mwa, .int ls_, .ref mle, .ref mno, .ref mtr, .ref mse, .ref mba, .int ba_, .ref mim, .int km_, .int si_, .ref msi, .ref mfo, .int fm_, .ref mor, .ref mbo, .ref mma, .ref mbm, .ref mso])), (mso, .inl (V.2.2.1, 7, .inl so)), (sa, .inl (V.2.2.1, 15, .inl (stF day w g)))] (fun (r : Int32) (u : (Nat → Int32)) => r = midF n w) (fun u => [(mm, .inr (11, [.int le_, .ref mtx, .int po_, .ref mnu, .int fa_, .int rcl_, .int rle_, .ref mrc, .ref mrw, .ref mrl, .int (nI n), .ref mki, .ref mwa, .int ls_, .ref mle, .ref mno, .ref mtr, .ref mse, .ref mba, .int ba_, .ref mim, .int km_, .int si_, .ref msi, .ref mfo, .int fm_, .ref mor, .ref mbo, .ref mma, .ref mbm, .ref mso])), (mso, .inl (V.2.2.1, 7, .inl u)), (sa, .inl (V.2.2.1, 15, .inl (stF day w g)))]) := by
  refine Ki.of [some (.ref mm), some (.ref sa), none, none] (by decide) (Nat.le_of_ble_eq_true rfl) rfl rfl ?_
  intro Z X E
  have X : gX V Z RX11 cX11_noonOf 4 ({ frames := 0, cells := 0, slots := 0, locals := 0 }) := X
  refine g_iconst X (0) dX11_noonOf_0 (by decide) ?_
  refine g_istore_n X (L' := [some (.ref mm), some (.ref sa), some (.int 0), none]) dX11_noonOf_1 (by decide) rfl rfl ?_
  have loop2 : ∀ (d2 c : Nat), c + d2 = n → ∀ (s1 : Nat → Int32) (hso : ordd s1 c) (hcn : ∀ p : Int32 → Bool, cnt (fun j => p (s1 j)) c = cnt (fun j => p (w j)) c), G V Z 4 (0, 0) [(mm, .inr (11, [.int le_, .ref mtx, .int po_, .ref mnu, .int fa_, .int rcl_, .int rle_, .ref mrc, .ref mrw, .ref mrl, .int (nI n), .ref mki, .ref mwa, .int ls_, .ref mle, .ref mno, .ref mtr, .ref mse, .ref mba, .int ba_, .ref mim, .int km_, .int si_, .ref msi, .ref mfo, .int fm_, .ref mor, .ref mbo, .ref mma, .ref mbm, .ref mso])), (mso, .inl (V.2.2.1, 7, .inl s1)), (sa, .inl (V.2.2.1, 15, .inl (stF day w g)))] 2 [some (.ref mm), some (.ref sa), some (.int (nI c)), none] [] := by
    intro d2
    induction d2 with
    | zero =>
      intro c hc s1 hso hcn
      refine g_iload_n X dX11_noonOf_2 rfl ?_
      refine g_aload_n X dX11_noonOf_3 rfl ?_
      refine g_get X uwX11 0 rfl rfl 10 (by decide) kl_X11_91 rfl rfl gwX11 dX11_noonOf_4 ?_
      refine g_icmp_ge X 69 dX11_noonOf_7 (by decide) (fun c7_1 => ?_) (fun c7_1 => absurd (tge (a := c) (b := n) (by omega) (by omega) (by omega)) c7_1)
      refine g_aload_n X dX11_noonOf_69 rfl ?_
      refine g_get X uwX11 0 rfl rfl 30 (by decide) kl_X11_67 rfl rfl gwX11 dX11_noonOf_70 ?_
      refine g_aload_n X dX11_noonOf_73 rfl ?_
      refine g_get X uwX11 0 rfl rfl 10 (by decide) kl_X11_91 rfl rfl gwX11 dX11_noonOf_74 ?_
      refine g_iconst X (1) dX11_noonOf_77 (by decide) ?_
      refine g_isub X dX11_noonOf_78 ?_
      refine g_toe (x' := nI (n - 1)) (nI_sub' rfl rfl (by omega)) ?_
      refine g_iconst X (2) dX11_noonOf_79 (by decide) ?_
      refine g_idiv X dX11_noonOf_80 (by decide) ?_
      refine g_toe (x' := nI ((n - 1) / 2)) (nI_div' rfl rfl (by omega) (by omega) (by omega)) ?_
      refine g_iald' X 1 rfl (i := ((n - 1) / 2)) rfl (by omega) (by omega) dX11_noonOf_81 ?_
      exact g_iret X E dX11_noonOf_82 s1 (s1 ((n - 1) / 2)) (by have e : c = n := (by omega); subst e; exact mid_of h1n hso hcn) rfl
    | succ d2 ih2 =>
      intro c hc s1 hso hcn
      refine g_iload_n X dX11_noonOf_2 rfl ?_
      refine g_aload_n X dX11_noonOf_3 rfl ?_
      refine g_get X uwX11 0 rfl rfl 10 (by decide) kl_X11_91 rfl rfl gwX11 dX11_noonOf_4 ?_
      refine g_icmp_ge X 69 dX11_noonOf_7 (by decide) (fun c7_2 => absurd c7_2 (fge (a := c) (b := n) (by omega) (by omega) (by omega))) (fun c7_2 => ?_)
      refine g_iload_n X dX11_noonOf_10 rfl ?_
      refine g_istore_n X (L' := [some (.ref mm), some (.ref sa), some (.int (nI c)), some (.int (nI c))]) dX11_noonOf_11 (by decide) rfl rfl ?_
      have loop12_3 : ∀ (d12 : Nat) (t_ : Nat) (s2 : Nat → Int32) (hat : t_ ≤ c) (hl1 : ∀ j, j < t_ → s2 j = s1 j) (hl2 : ∀ j, t_ < j → j ≤ c → s2 j = s1 (j - 1)) (hl3 : ∀ j, t_ ≤ j → j < c → w c < s1 j), t_ < d12 → G V Z 4 (0, 0) [(mm, .inr (11, [.int le_, .ref mtx, .int po_, .ref mnu, .int fa_, .int rcl_, .int rle_, .ref mrc, .ref mrw, .ref mrl, .int (nI n), .ref mki, .ref mwa, .int ls_, .ref mle, .ref mno, .ref mtr, .ref mse, .ref mba, .int ba_, .ref mim, .int km_, .int si_, .ref msi, .ref mfo, .int fm_, .ref mor, .ref mbo, .ref mma, .ref mbm, .ref mso])), (mso, .inl (V.2.2.1, 7, .inl s2)), (sa, .inl (V.2.2.1, 15, .inl (stF day w g)))] 12 [some (.ref mm), some (.ref sa), some (.int (nI c)), some (.int (nI t_))] [] := by
        intro d12
        induction d12 with
        | zero => intro t_ s2 hat hl1 hl2 hl3 hmu; exact absurd hmu (Nat.not_lt_zero _)
        | succ d12 ih12 =>
          intro t_ s2 hat hl1 hl2 hl3 hmu
          refine g_iload_n X dX11_noonOf_12 rfl ?_
          refine g_if_le X 52 dX11_noonOf_13 (by decide) (fun c13_4 => ?_) (fun c13_4 => ?_)
          · have c13_4n := ile' (a := t_) (b := 0) c13_4 (by omega) (by omega)
            refine g_aload_n X dX11_noonOf_52 rfl ?_
            refine g_get X uwX11 0 rfl rfl 30 (by decide) kl_X11_67 rfl rfl gwX11 dX11_noonOf_53 ?_
            refine g_iload_n X dX11_noonOf_56 rfl ?_
            refine g_aload_n X dX11_noonOf_57 rfl ?_
            refine g_iconst X (1) dX11_noonOf_58 (by decide) ?_
            refine g_iload_n X dX11_noonOf_59 rfl ?_
            refine g_iadd X dX11_noonOf_60 ?_
            refine g_toe (x' := nI (1 + c)) (nI_add' rfl rfl) ?_
            refine g_iald' X 2 rfl (i := (1 + c)) rfl (by omega) (by omega) dX11_noonOf_61 ?_
            refine g_toe (x' := w c) (stF_w _ _ _ c (by omega)) ?_
            refine g_iast' X 1 rfl (i := t_) rfl (by omega) (by omega) (ws' := [(mm, .inr (11, [.int le_, .ref mtx, .int po_, .ref mnu, .int fa_, .int rcl_, .int rle_, .ref mrc, .ref mrw, .ref mrl, .int (nI n), .ref mki, .ref mwa, .int ls_, .ref mle, .ref mno, .ref mtr, .ref mse, .ref mba, .int ba_, .ref mim, .int km_, .int si_, .ref msi, .ref mfo, .int fm_, .ref mor, .ref mbo, .ref mma, .ref mbm, .ref mso])), (mso, .inl (V.2.2.1, 7, .inl (upd s2 t_ (w c)))), (sa, .inl (V.2.2.1, 15, .inl (stF day w g)))]) rfl dX11_noonOf_62 ?_
            refine g_iinc X (v := nI (c + 1)) (L' := [some (.ref mm), some (.ref sa), some (.int (nI (c + 1))), some (.int (nI t_))]) dX11_noonOf_63 rfl (nI_addk (by decide)) (by decide) rfl rfl ?_
            refine g_goto X 2 dX11_noonOf_66 (by decide) ?_
            refine g_sub (L' := [some (.ref mm), some (.ref sa), some (.int (nI (c + 1))), none]) ⟨rfl, ⟨rfl, ⟨rfl, trivial⟩⟩⟩ ?_
            exact ih2 (c + 1) (by omega) (upd s2 t_ (w c)) (ins_ord hso (fun j hj => by rw [pk_un (by omega)]; exact hl1 j hj) pk_us (fun j h1 h2 => by rw [pk_un (by omega)]; exact hl2 j h1 h2) hat hl3 (Or.inl (by omega))) (fun p => by rw [ins_cnt (s := s1) (s' := upd s2 t_ (w c)) (x := w c) (at_ := t_) (fun j hj => by rw [pk_un (by omega)]; exact hl1 j hj) pk_us (fun j h1 h2 => by rw [pk_un (by omega)]; exact hl2 j h1 h2) hat p, hcn p, cnt_s]; by_cases e : p (w c) = true <;> simp [e])
          · have c13_4n := inle' (a := t_) (b := 0) c13_4 (by omega) (by omega)
            refine g_aload_n X dX11_noonOf_16 rfl ?_
            refine g_get X uwX11 0 rfl rfl 30 (by decide) kl_X11_67 rfl rfl gwX11 dX11_noonOf_17 ?_
            refine g_iload_n X dX11_noonOf_20 rfl ?_
            refine g_iconst X (1) dX11_noonOf_21 (by decide) ?_
            refine g_isub X dX11_noonOf_22 ?_
            refine g_toe (x' := nI (t_ - 1)) (nI_sub' rfl rfl (by omega)) ?_
            refine g_iald' X 1 rfl (i := (t_ - 1)) rfl (by omega) (by omega) dX11_noonOf_23 ?_
            refine g_aload_n X dX11_noonOf_24 rfl ?_
            refine g_iconst X (1) dX11_noonOf_25 (by decide) ?_
            refine g_iload_n X dX11_noonOf_26 rfl ?_
            refine g_iadd X dX11_noonOf_27 ?_
            refine g_toe (x' := nI (1 + c)) (nI_add' rfl rfl) ?_
            refine g_iald' X 2 rfl (i := (1 + c)) rfl (by omega) (by omega) dX11_noonOf_28 ?_
            refine g_toe (x' := w c) (stF_w _ _ _ c (by omega)) ?_
            refine g_icmp_le X 52 dX11_noonOf_29 (by decide) (fun c29_5 => ?_) (fun c29_5 => ?_)
            · have c29_5d := Int32.not_lt.mpr c29_5
              refine g_aload_n X dX11_noonOf_52 rfl ?_
              refine g_get X uwX11 0 rfl rfl 30 (by decide) kl_X11_67 rfl rfl gwX11 dX11_noonOf_53 ?_
              refine g_iload_n X dX11_noonOf_56 rfl ?_
              refine g_aload_n X dX11_noonOf_57 rfl ?_
              refine g_iconst X (1) dX11_noonOf_58 (by decide) ?_
              refine g_iload_n X dX11_noonOf_59 rfl ?_
              refine g_iadd X dX11_noonOf_60 ?_
              refine g_toe (x' := nI (1 + c)) (nI_add' rfl rfl) ?_
              refine g_iald' X 2 rfl (i := (1 + c)) rfl (by omega) (by omega) dX11_noonOf_61 ?_
              refine g_toe (x' := w c) (stF_w _ _ _ c (by omega)) ?_
              refine g_iast' X 1 rfl (i := t_) rfl (by omega) (by omega) (ws' := [(mm, .inr (11, [.int le_, .ref mtx, .int po_, .ref mnu, .int fa_, .int rcl_, .int rle_, .ref mrc, .ref mrw, .ref mrl, .int (nI n), .ref mki, .ref mwa, .int ls_, .ref mle, .ref mno, .ref mtr, .ref mse, .ref mba, .int ba_, .ref mim, .int km_, .int si_, .ref msi, .ref mfo, .int fm_, .ref mor, .ref mbo, .ref mma, .ref mbm, .ref mso])), (mso, .inl (V.2.2.1, 7, .inl (upd s2 t_ (w c)))), (sa, .inl (V.2.2.1, 15, .inl (stF day w g)))]) rfl dX11_noonOf_62 ?_
              refine g_iinc X (v := nI (c + 1)) (L' := [some (.ref mm), some (.ref sa), some (.int (nI (c + 1))), some (.int (nI t_))]) dX11_noonOf_63 rfl (nI_addk (by decide)) (by decide) rfl rfl ?_
              refine g_goto X 2 dX11_noonOf_66 (by decide) ?_
              refine g_sub (L' := [some (.ref mm), some (.ref sa), some (.int (nI (c + 1))), none]) ⟨rfl, ⟨rfl, ⟨rfl, trivial⟩⟩⟩ ?_
              exact ih2 (c + 1) (by omega) (upd s2 t_ (w c)) (ins_ord hso (fun j hj => by rw [pk_un (by omega)]; exact hl1 j hj) pk_us (fun j h1 h2 => by rw [pk_un (by omega)]; exact hl2 j h1 h2) hat hl3 (Or.inr (by rw [← hl1 (t_ - 1) (by omega)]; exact c29_5))) (fun p => by rw [ins_cnt (s := s1) (s' := upd s2 t_ (w c)) (x := w c) (at_ := t_) (fun j hj => by rw [pk_un (by omega)]; exact hl1 j hj) pk_us (fun j h1 h2 => by rw [pk_un (by omega)]; exact hl2 j h1 h2) hat p, hcn p, cnt_s]; by_cases e : p (w c) = true <;> simp [e])
            · have c29_5d := Int32.not_le.mp c29_5
              refine g_aload_n X dX11_noonOf_32 rfl ?_
              refine g_get X uwX11 0 rfl rfl 30 (by decide) kl_X11_67 rfl rfl gwX11 dX11_noonOf_33 ?_
              refine g_iload_n X dX11_noonOf_36 rfl ?_
              refine g_aload_n X dX11_noonOf_37 rfl ?_
              refine g_get X uwX11 0 rfl rfl 30 (by decide) kl_X11_67 rfl rfl gwX11 dX11_noonOf_38 ?_
              refine g_iload_n X dX11_noonOf_41 rfl ?_
              refine g_iconst X (1) dX11_noonOf_42 (by decide) ?_
              refine g_isub X dX11_noonOf_43 ?_
              refine g_toe (x' := nI (t_ - 1)) (nI_sub' rfl rfl (by omega)) ?_
              refine g_iald' X 1 rfl (i := (t_ - 1)) rfl (by omega) (by omega) dX11_noonOf_44 ?_
              refine g_iast' X 1 rfl (i := t_) rfl (by omega) (by omega) (ws' := [(mm, .inr (11, [.int le_, .ref mtx, .int po_, .ref mnu, .int fa_, .int rcl_, .int rle_, .ref mrc, .ref mrw, .ref mrl, .int (nI n), .ref mki, .ref mwa, .int ls_, .ref mle, .ref mno, .ref mtr, .ref mse, .ref mba, .int ba_, .ref mim, .int km_, .int si_, .ref msi, .ref mfo, .int fm_, .ref mor, .ref mbo, .ref mma, .ref mbm, .ref mso])), (mso, .inl (V.2.2.1, 7, .inl (upd s2 t_ (s2 (t_ - 1))))), (sa, .inl (V.2.2.1, 15, .inl (stF day w g)))]) rfl dX11_noonOf_45 ?_
              refine g_iinc X (v := nI (t_ - 1)) (L' := [some (.ref mm), some (.ref sa), some (.int (nI c)), some (.int (nI (t_ - 1)))]) dX11_noonOf_46 rfl (nI_dec' (by omega)) (by decide) rfl rfl ?_
              refine g_goto X 12 dX11_noonOf_49 (by decide) ?_
              exact ih12 (t_ - 1) (upd s2 t_ (s2 (t_ - 1))) (by omega) (fun j hj => by rw [pk_un (by omega)]; exact hl1 j (by omega)) (fun j h1 h2 => by
          by_cases e : j = t_
          · subst e; rw [pk_us]; exact hl1 _ (by omega)
          · rw [pk_un e]; exact hl2 j (by omega) h2) (fun j h1 h2 => by
          by_cases e : j = t_ - 1
          · rw [e, ← hl1 (t_ - 1) (by omega)]; exact c29_5d
          · exact hl3 j (by omega) h2) (by omega)
      exact loop12_3 _ c s1 (Nat.le_refl _) (fun j _ => rfl) (fun j h1 h2 => by omega) (fun j h1 h2 => by omega) (Nat.lt_succ_self _)
  exact loop2 n 0 (by omega) so (fun i j _ h => absurd h (Nat.not_lt_zero _)) (fun p => rfl)
