-- WHAT LIES BEYOND THE CLOCKS DOESN'T COUNT
def Ag (n : Nat) (f f' : Nat → Int32) : Prop := ∀ j, j < n → f j = f' j
theorem Ag.rf {n : Nat} {f : Nat → Int32} : Ag n f f := fun _ _ => rfl
theorem Ag.upd {n b : Nat} {x : Int32} {f f' : Nat → Int32} (h : Ag n f f') : Ag n (upd f b x) (upd f' b x) := fun j hj => upd_cong (h j hj)
theorem it_R {α β : Type} (R : α → β → Prop) {F : Nat → α → α} {F' : Nat → β → β} : ∀ {q : Nat} {a : α} {b : β}, (∀ i, i < q → ∀ a b, R a b → R (F i a) (F' i b)) → R a b → R (it F q a) (it F' q b)
  | 0, _, _, _, h => h
  | q + 1, _, _, hs, h => hs q (Nat.lt_succ_self q) _ _ (it_R R (fun i hi => hs i (Nat.lt_succ_of_lt hi)) h)
theorem it_E {α : Type} {F F' : Nat → α → α} {q : Nat} {a : α} (h : ∀ i, i < q → ∀ a, F i a = F' i a) : it F q a = it F' q a := it_R (fun a b => a = b) (fun i hi a b e => by rw [e]; exact h i hi b) rfl
theorem cnt_c {p p' : Nat → Bool} {n : Nat} (h : ∀ j, j < n → p j = p' j) : cnt p n = cnt p' n := by
  rw [cnt, cnt]
  exact it_E (fun i hi a => by rw [h i hi])
theorem fst1_c {α : Type} {f f' : Nat → Option α} {n : Nat} (h : ∀ j, j < n → f j = f' j) : fst1 f n = fst1 f' n := by
  rw [fst1, fst1]
  exact it_E (fun i hi a => by cases a <;> simp only [h i hi])
theorem learn_ag {k : Nat → Int32} {day : Int32} {n a b : Nat} {w w' : Nat → Int32} (ha : a < n) (hb : b < n) (h : Ag n w w') : Ag n (learnF k day a b w) (learnF k day a b w') := by
  intro j hj
  rw [learnF, learnF]
  split
  · exact h j hj
  · rw [h a ha, h b hb]
    exact upd_cong (h j hj)
theorem told_ag {k : Nat → Int32} {ld te pu : Nat → Nat} {n m : Nat} {day : Int32} {w w' : Nat → Int32} (ht : ∀ i, i < m → te i < n ∧ pu i < n) (h : Ag n w w') : Ag n (toldF k ld te pu m day w) (toldF k ld te pu m day w') := by
  rw [toldF, toldF]
  refine it_R (Ag n) (fun i hi a b e => ?_) h
  try dsimp only
  split
  · exact learn_ag (ht i hi).1 (ht i hi).2 e
  · exact e
theorem near_1 {n u v : Nat} {p : Int32} {w w' : Nat → Int32} (hu : u < n) (hv : v < n) (h : Ag n w w') :
    Ag n (if 1 < p then upd (if 0 < p then upd w u (clampF (w u - 1)) else w) v (clampF ((if 0 < p then upd w u (clampF (w u - 1)) else w) v + 1)) else (if 0 < p then upd w u (clampF (w u - 1)) else w)) (if 1 < p then upd (if 0 < p then upd w' u (clampF (w' u - 1)) else w') v (clampF ((if 0 < p then upd w' u (clampF (w' u - 1)) else w') v + 1)) else (if 0 < p then upd w' u (clampF (w' u - 1)) else w')) := by
  have h1 : Ag n (if 0 < p then upd w u (clampF (w u - 1)) else w) (if 0 < p then upd w' u (clampF (w' u - 1)) else w') := by
    split
    · rw [h u hu]
      exact h.upd
    · exact h
  generalize (if 0 < p then upd w u (clampF (w u - 1)) else w) = x at h1 ⊢
  generalize (if 0 < p then upd w' u (clampF (w' u - 1)) else w') = y at h1 ⊢
  split
  · rw [h1 v hv]
    exact h1.upd
  · exact h1
theorem near_ag {n a b : Nat} {w w' : Nat → Int32} (ha : a < n) (hb : b < n) (h : Ag n w w') : Ag n (nearF a b w) (nearF a b w') := by
  have ep : apartF w a b = apartF w' a b := by rw [apartF, apartF, h a ha, h b hb]
  unfold nearF
  try dsimp only
  rw [ep, h a ha, h b hb]
  by_cases c : w' b < w' a
  · simp only [if_pos c]
    exact near_1 ha hb h
  · simp only [if_neg c]
    exact near_1 hb ha h
theorem hear_ag {wb : Nat → Int32} {n : Nat} {w w' : Nat → Int32} (h : Ag n w w') : Ag n (hearF wb n w) (hearF wb n w') := by
  rw [hearF, hearF, hearG, hearG]
  refine it_R (Ag n) (fun a ha x y e => ?_) h
  show Ag n (itg _ _ n x) (itg _ _ n y)
  rw [itg, itg]
  refine it_R (Ag n) (fun b hb x y e => ?_) e
  try dsimp only
  split
  · exact e
  · split
    · exact e
    · exact near_ag ha hb e
theorem gain_ag {g g' : Nat → Int32} {n : Nat} {w w' : Nat → Int32} (hg : Ag n g g') (h : Ag n w w') : Ag n (gainF g n w) (gainF g' n w') := by
  rw [gainF, gainF]
  refine it_R (Ag n) (fun c hc x y e => ?_) h
  try dsimp only
  rw [e c hc, hg c hc]
  exact e.upd
section AG
variable {k wb : Nat → Int32} {ld te pu : Nat → Nat} {n m : Nat} {g g' : Nat → Int32} {day : Int32} {w w' : Nat → Int32}
theorem day_ag {carry : Int32} (ht : ∀ i, i < m → te i < n ∧ pu i < n) (hg : Ag n g g') (h : Ag n w w') : Ag n (dayF k wb ld te pu n m g carry day w) (dayF k wb ld te pu n m g' carry day w') := by
  rw [dayF, dayF]
  refine gain_ag hg ?_
  split
  · exact told_ag ht h
  · exact hear_ag (told_ag ht h)
theorem days_ag {q : Nat} (ht : ∀ i, i < m → te i < n ∧ pu i < n) (hg : Ag n g g') (h : Ag n w w') : Ag n (daysF k wb ld te pu n m g day q w) (daysF k wb ld te pu n m g' day q w') := by
  rw [daysF, daysF]
  exact it_R (Ag n) (fun i _ x y e => day_ag ht hg e) h
theorem see_ag {x : Int32} (h : Ag n w w') : Ag n (seeF k n x w) (seeF k n x w') := by
  rw [seeF, seeF]
  refine it_R (Ag n) (fun c hc a b e => ?_) h
  try dsimp only
  split
  · exact e
  · exact e.upd
theorem mid_E (h : Ag n w w') : midF n w = midF n w' := by
  rw [midF, midF, fst1_c (f' := midP n w') (fun c hc => ?_)]
  rw [midP, midP, cnt_c (p' := fun j => decide (w' j < w' c)) (fun j hj => by rw [h j hj, h c hc]), cnt_c (p := fun j => decide (w j = w c)) (p' := fun j => decide (w' j = w' c)) (fun j hj => by rw [h j hj, h c hc]), h c hc]
theorem right_E (h : Ag n w w') : rightF n w = rightF n w' := by
  rw [rightF, rightF]
  exact cnt_c (fun j hj => by rw [h j hj])
theorem tog_E (h : Ag n w w') : togF n w = togF n w' := by
  rw [togF, togF]
  exact it_E (fun i hi a => by rw [h i hi])
theorem wi_E {x : Int32} (h : Ag n w w') : wiF n x w = wiF n x w' := by
  rw [wiF, wiF, fst1_c (f' := wiP x w') (fun c hc => by rw [wiP, wiP, h c hc])]
theorem one_E {x : Int32} (h : Ag n w w') : oneF k day n x w = oneF k day n x w' := by
  rw [oneF, oneF, fst1_c (f' := oneP k day n x w') (fun a ha => ?_)]
  rw [oneP, oneP]
  refine fst1_c (fun b hb => ?_)
  rw [oneQ, oneQ, wi_E (learn_ag ha hb h)]
theorem two_E {x : Int32} {s : Int32 × Int32} (h : Ag n w w') : twoF k day n x w s = twoF k day n x w' s := by
  rw [twoF, twoF]
  refine it_E (fun a ha s => ?_)
  rw [twoP, twoP]
  refine it_E (fun b hb s => ?_)
  rw [twoQ, twoQ, one_E (learn_ag ha hb h)]
theorem cure_E {x : Int32} (h : Ag n w w') : cureF k day n x w = cureF k day n x w' := by
  rw [cureF, cureF, wi_E h, one_E h, two_E h]
theorem ring_ag {od : Nat → Nat} (ho : ∀ j, j < n → od j < n) (h : Ag n w w') : Ag n (ringW k day od n w) (ringW k day od n w') := by
  rw [ringW, ringW, itg, itg]
  refine it_R (Ag n) (fun i hi a b e => ?_) h
  try dsimp only
  split
  · exact e
  · exact learn_ag (ho (i - 1) (by omega)) (ho i hi) e
theorem best_E (h1 : 1 ≤ n) (h7 : n ≤ 7) (h : Ag n w w') : ∀ y, y ≤ waysR n → bestR k day n w y = bestR k day n w' y
  | 0, _ => rfl
  | y + 1, hy => by
    have ih := best_E h1 h7 h y (by omega)
    rw [bestR, bestR, ih, tog_E (ring_ag (fun j hj => ord_R2 n (by omega) h1 y (by omega) j hj) h)]
theorem ringB_E (h1 : 1 ≤ n) (h7 : n ≤ 7) (h : Ag n w w') : bestR k day n w (waysR n) = bestR k day n w' (waysR n) := best_E h1 h7 h _ (Nat.le_refl _)
theorem apart_E {a b : Nat} (ha : a < n) (hb : b < n) (h : Ag n w w') : apartF w a b = apartF w' a b := by rw [apartF, apartF, h a ha, h b hb]
theorem sum_E {y : Nat} (h7 : n ≤ 7) (hy : y < waysP n) (h : Ag n w w') : sumF n w (dgP n y) (places n / 2) = sumF n w' (dgP n y) (places n / 2) := by
  rw [sumF, sumF]
  refine it_E (fun j hj s => ?_)
  try dsimp only
  split
  · rename_i c
    rw [apart_E (two_P n (by omega) y hy j hj).1 c h]
  · rfl
theorem bestP_E (h7 : n ≤ 7) (h : Ag n w w') : ∀ y, y ≤ waysP n → bestP n w y = bestP n w' y
  | 0, _ => rfl
  | y + 1, hy => by
    have ih := bestP_E h7 h y (by omega)
    rw [bestP, bestP, ih, sum_E h7 (by omega) h]
theorem pairB_E (h7 : n ≤ 7) (h : Ag n w w') : bestP n w (waysP n) = bestP n w' (waysP n) := bestP_E h7 h _ (Nat.le_refl _)
theorem dull_E {c : Nat} (hc : c < n) (h : Ag n w w') : dullF k day n w c = dullF k day n w' c := by
  rw [dullF, dullF, fst1_c (f' := dullP k day w' c) (fun a ha => by rw [dullP, dullP, h a ha, h c hc]), h c hc]
theorem dullB_E (h : Ag n w w') : dullB k day n n w = dullB k day n n w' := by
  rw [dullB, dullB]
  exact it_E (fun c hc s => by rw [dull_E hc h])
theorem goil_ag {c t : Nat} (hc : c < n) (h : Ag n g g') : Ag n (goilF c t g) (goilF c t g') := by
  rw [goilF, goilF]
  refine it_R (Ag n) (fun i _ a b e => ?_) h
  try dsimp only
  rw [e c hc]
  split
  · exact e
  · exact e.upd
theorem oils_E {c q : Nat} {x : Int32} (ht : ∀ i, i < m → te i < n ∧ pu i < n) (hc : c < n) (hg : Ag n g g') (h : Ag n w w') : oilsF k wb ld te pu n m g day w c q x = oilsF k wb ld te pu n m g' day w' c q x := by
  rw [oilsF, oilsF, fst1_c (f' := oilsP k wb ld te pu n m g' day w' c q x) (fun t _ => ?_)]
  rw [oilsP, oilsP, days_ag ht (goil_ag hc hg) h c hc]
theorem fit_E {z : Nat} {rc : Nat → Nat} {rm : Nat → Int32} (hr : ∀ i, i < z → rc i < n) (h : Ag n w w') : fitF z rc rm w = fitF z rc rm w' := by
  rw [fitF, fitF, fst1_c (f' := fitP rc rm w') (fun i hi => by rw [fitP, fitP, h _ (hr i hi)])]
theorem tau_E {z : Nat} {rc : Nat → Nat} {rm : Nat → Int32} (hr : ∀ i, i < z → rc i < n) (h : Ag n w w') : tauF k day n w z rc rm = tauF k day n w' z rc rm := by
  rw [tauF, tauF]
  refine it_E (fun a ha s => ?_)
  rw [tauP, tauP]
  refine it_E (fun b hb s => ?_)
  rw [tauQ, tauQ, fit_E hr (learn_ag ha hb h)]
theorem set_E {z : Nat} {rc : Nat → Nat} {rm : Nat → Int32} (hr : ∀ i, i < z → rc i < n) (h : Ag n w w') : setF k n w z rc rm = setF k n w' z rc rm := by
  rw [setF, setF]
  refine it_E (fun i _ s => ?_)
  rw [setS, setS, fit_E hr (see_ag h)]
theorem chi_E {c : Nat} (hc : c < n) (h : Ag n w w') : chiF n w c = chiF n w' c := by
  rw [chiF, chiF, it_E (F' := chiS w' c) (fun o ho s => by rw [chiS, chiS, apart_E hc ho h])]
theorem dra_ag {x : Int32} {q dd : Nat} (ht : ∀ i, i < m → te i < n ∧ pu i < n) (hg : Ag n g g') (h : Ag n w w') : (draF k wb ld te pu n m g x day w q dd).1 = (draF k wb ld te pu n m g' x day w' q dd).1 ∧ Ag n (draF k wb ld te pu n m g x day w q dd).2 (draF k wb ld te pu n m g' x day w' q dd).2 := by
  rw [draF, draF]
  refine it_R (fun s s' : Int32 × (Nat → Int32) => s.1 = s'.1 ∧ Ag n s.2 s'.2) (fun i _ s s' e => ?_) ⟨rfl, h⟩
  rw [draS, draS, e.1]
  split
  · exact ⟨rfl, day_ag ht hg e.2⟩
  · exact ⟨rfl, day_ag ht hg e.2⟩
theorem abo_E {x : Int32} {c q dd : Nat} (ht : ∀ i, i < m → te i < n ∧ pu i < n) (hc : c < n) (hg : Ag n g g') (h : Ag n w w') : aboF k wb ld te pu n m g x day w c q dd = aboF k wb ld te pu n m g' x day w' c q dd := by
  rw [aboF, aboF]
  refine it_E (fun d _ s => ?_)
  have e := dra_ag (k := k) (wb := wb) (ld := ld) (day := day) (x := x) (q := q) (dd := d) ht hg h
  try dsimp only
  rw [e.1, e.2 c hc]
theorem yr_ag {z q : Nat} (h1 : 1 ≤ n) (ht : ∀ i, i < m → te i < n ∧ pu i < n) (hg : Ag n g g') (h : Ag n w w') : Ag n (yrF k wb ld te pu n m g day z q w) (yrF k wb ld te pu n m g' day z q w') := by
  rw [yrF, yrF]
  refine it_R (Ag n) (fun i _ a b e => ?_) h
  rw [yrS, yrS]
  refine day_ag ht hg ?_
  split
  · exact e
  · split
    · exact e
    · exact learn_ag (Nat.mod_lt _ h1) (Nat.mod_lt _ h1) e
theorem Bd_days {q : Nat} (hB : Bd n w) : Bd n (daysF k wb ld te pu n m g day q w) := by
  cases q with
  | zero => exact hB
  | succ q => exact Bd_day
end AG
-- letters beyond the text
theorem rdN_c {tf tf' : Nat → Nat} : ∀ {d p fig num to : Nat} {nu : Nat → Nat}, (∀ i, i < p + d → tf i = tf' i) → rdN tf d p fig num to nu = rdN tf' d p fig num to nu
  | 0, _, _, _, _, _, _ => rfl
  | d + 1, p, fig, num, to, nu, h => by
    rw [rdN, rdN, h p (by omega), rdN_c (d := d) (p := p + 1) (fun i hi => h i (by omega)), rdN_c (d := d) (p := p + 1) (fun i hi => h i (by omega))]
theorem rdF_c {tf tf' : Nat → Nat} {x : Nat} (h : ∀ i, i < x → tf i = tf' i) : ∀ {f p : Nat} {nu : Nat → Nat} {s : HS}, rdF tf x f p nu s = rdF tf' x f p nu s
  | 0, _, _, _ => rfl
  | f + 1, p, nu, s => by
    rw [rdF, rdF]
    by_cases hp : x ≤ p
    · rw [if_pos hp, if_pos hp]
    · rw [if_neg hp, if_neg hp, rdN_c (tf' := tf') (fun i hi => h i (by omega)), h p (by omega)]
      cases (rdN tf' (x - (p + 1)) (p + 1) 0 0 0 nu).1 with
      | none => rfl
      | some q =>
        try dsimp only
        rw [rdF_c h]
-- what a reading leaves as it was: rows beyond its clocks and lessons
abbrev HX (s t : HS) : Prop := s.1 ≤ t.1 ∧ s.2.2.1 ≤ t.2.2.1 ∧ (∀ j, t.1 ≤ j → t.2.2.2.1 j = s.2.2.2.1 j ∧ t.2.2.2.2.2.2.1 j = s.2.2.2.2.2.2.1 j) ∧ (∀ j, t.2.2.1 ≤ j → t.2.2.2.2.2.2.2.1 j = s.2.2.2.2.2.2.2.1 j ∧ t.2.2.2.2.2.2.2.2.1 j = s.2.2.2.2.2.2.2.2.1 j ∧ t.2.2.2.2.2.2.2.2.2 j = s.2.2.2.2.2.2.2.2.2 j)
theorem HX.tr {s t u : HS} (h1 : HX s t) (h2 : HX t u) : HX s u := by
  obtain ⟨a1, a2, a3, a4⟩ := h1
  obtain ⟨b1, b2, b3, b4⟩ := h2
  refine ⟨Nat.le_trans a1 b1, Nat.le_trans a2 b2, fun j hj => ?_, fun j hj => ?_⟩
  · have z1 := a3 j (Nat.le_trans b1 hj)
    have z2 := b3 j hj
    exact ⟨z2.1.trans z1.1, z2.2.trans z1.2⟩
  · have z1 := a4 j (Nat.le_trans b2 hj)
    have z2 := b4 j hj
    exact ⟨z2.1.trans z1.1, z2.2.1.trans z1.2.1, z2.2.2.trans z1.2.2⟩
theorem HX.rf (s : HS) : HX s s := ⟨Nat.le_refl _, Nat.le_refl _, fun _ _ => ⟨rfl, rfl⟩, fun _ _ => ⟨rfl, rfl, rfl⟩⟩
theorem item_X {l to : Nat} {nu : Nat → Nat} {s : HS} (hok : itemOK l to nu s.1 s.2.2.1) : HX s (itemF l nu s) := by
  obtain ⟨n, wa, m, k, fw, fg, wb, ld, te, pu⟩ := s
  rcases hok with ⟨a1, a2, a3, a4, a5, a6⟩ | ⟨a1, a2, a3, a4, a5⟩ | ⟨a1, a2, a3, a4, a5, a6, a7⟩
  · rw [itemF, if_pos a1]
    refine ⟨Nat.le_succ _, Nat.le_refl _, fun j hj => ?_, fun j hj => ⟨rfl, rfl, rfl⟩⟩
    have hj' : n + 1 ≤ j := hj
    exact ⟨pk_un (by omega), pk_un (by omega)⟩
  · have hl99 : ¬ l = 99 := by omega
    rw [itemF, if_neg hl99, if_pos a1]
    refine ⟨Nat.le_refl _, Nat.le_refl _, fun j hj => ⟨rfl, ?_⟩, fun j hj => ⟨rfl, rfl, rfl⟩⟩
    have hj' : n ≤ j := hj
    have b3 : nu 0 < n := a3
    have b4 : nu 1 < n := a4
    show wallB wb (nu 0) (nu 1) j = wb j
    rw [wallB]
    split
    · rw [pk_un (by omega), pk_un (by omega)]
    · rfl
  · have hl99 : ¬ l = 99 := by omega
    have hl119 : ¬ l = 119 := by omega
    rw [itemF, if_neg hl99, if_neg hl119]
    refine ⟨Nat.le_refl _, Nat.le_succ _, fun j hj => ⟨rfl, rfl⟩, fun j hj => ?_⟩
    have hj' : m + 1 ≤ j := hj
    have e : ¬ j = m := by omega
    show updN ld m (nu 0) j = ld j ∧ updN te m (nu 1) j = te j ∧ updN pu m (nu 2) j = pu j
    rw [updN, updN, updN, if_neg e, if_neg e, if_neg e]
    exact ⟨rfl, rfl, rfl⟩
theorem rdF_X {tf : Nat → Nat} {x : Nat} : ∀ {f p : Nat} {nu : Nat → Nat} {s : HS}, HX s (rdF tf x f p nu s).2
  | 0, _, _, s => HX.rf s
  | f + 1, p, nu, s => by
    rw [rdF]
    split
    · exact HX.rf s
    · split
      · exact HX.rf s
      · split
        · rename_i hok
          exact (item_X hok).tr rdF_X
        · exact HX.rf s
