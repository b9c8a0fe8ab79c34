-- CONTRACTS over the layer, calls and returns
def posC : List Nat → Nat → Nat
  | [], _ => 0
  | i :: is, j => if i = j then 1 else match posC is j with
    | 0 => 0
    | k + 1 => k + 2
theorem posC_0 : ∀ {is : List Nat} {j : Nat}, posC is j = 0 → j ∉ is
  | [], _, _ => List.not_mem_nil
  | i :: is, j, h => by
    rw [posC] at h
    split at h
    · cases h
    · rename_i hne
      cases hp : posC is j with
      | zero => exact fun hm => (List.mem_cons.mp hm).elim (fun e => hne e.symm) (posC_0 hp)
      | succ k => rw [hp] at h; cases h
theorem posC_s : ∀ {is : List Nat} {j k : Nat}, posC is j = k + 1 → is[k]? = some j
  | [], _, _, h => by cases h
  | i :: is, j, k, h => by
    rw [posC] at h
    split at h
    · rename_i he
      cases h
      rw [he]
      rfl
    · cases hp : posC is j with
      | zero => rw [hp] at h; cases h
      | succ k' =>
        rw [hp] at h
        have e : k = k' + 1 := by simpa using h.symm
        subst e
        simpa using posC_s hp
def wmg (w1 : va_W) : List Nat → va_W → va_W
  | _, [] => []
  | [], x :: ws => x :: wmg w1 [] ws
  | 0 :: cs, x :: ws => x :: wmg w1 cs ws
  | (k + 1) :: cs, x :: ws => (w1[k]?).getD x :: wmg w1 cs ws
theorem wmg_at {w1 : va_W} : ∀ {cs : List Nat} {ws : va_W} {j : Nat} {q : Nat × va_E}, cs.length = ws.length → (wmg w1 cs ws)[j]? = some q →
    (cs[j]? = some 0 ∧ ws[j]? = some q) ∨ ∃ k x, cs[j]? = some (k + 1) ∧ ws[j]? = some x ∧ q = (w1[k]?).getD x
  | _, [], _, _, _, h => by simp [wmg] at h
  | [], x :: ws, _, _, hl, _ => absurd hl (by simp)
  | 0 :: cs, x :: ws, j, q, hl, h => by
    rw [wmg] at h
    cases j with
    | zero => exact Or.inl ⟨rfl, by simpa using h⟩
    | succ j => exact wmg_at (cs := cs) (ws := ws) (by simpa using hl) (by simpa using h)
  | (k + 1) :: cs, x :: ws, j, q, hl, h => by
    rw [wmg] at h
    cases j with
    | zero => exact Or.inr ⟨k, x, rfl, rfl, by simpa using h.symm⟩
    | succ j => exact wmg_at (cs := cs) (ws := ws) (by simpa using hl) (by simpa using h)
theorem wmg_len {w1 : va_W} : ∀ {cs : List Nat} {ws : va_W}, (wmg w1 cs ws).length = ws.length
  | _, [] => by simp [wmg]
  | [], x :: ws => by rw [wmg, List.length_cons, List.length_cons, wmg_len]
  | 0 :: cs, x :: ws => by rw [wmg, List.length_cons, List.length_cons, wmg_len]
  | (k + 1) :: cs, x :: ws => by rw [wmg, List.length_cons, List.length_cons, wmg_len]
def wset (cs : List Nat) (ws : va_W) (is : List Nat) (w1 : va_W) : va_W := wmg w1 cs ws ++ w1.drop is.length
theorem wset_at {cs is : List Nat} {ws xs : va_W} (hcl : cs.length = ws.length) (hcd : cs = (List.range cs.length).map (posC is)) (hlen : is.length ≤ xs.length) {j : Nat} {q : Nat × va_E} (h : (wset cs ws is xs)[j]? = some q) :
    (∃ k, xs[k]? = some q ∧ (is[k]? = some j ∨ (is.length ≤ k ∧ j = ws.length + (k - is.length)))) ∨ (j ∉ is ∧ ws[j]? = some q) := by
  have hc : ∀ c, cs[j]? = some c → c = posC is j := by
    intro c h1
    rw [hcd, List.getElem?_map] at h1
    cases hr : (List.range cs.length)[j]? with
    | none => rw [hr] at h1; cases h1
    | some j' =>
      rw [hr] at h1
      have hj := List.getElem?_eq_some_iff.mp hr
      obtain ⟨h2, h3⟩ := hj
      rw [List.getElem_range] at h3
      subst h3
      exact (Option.some.inj h1).symm
  rw [wset, List.getElem?_append] at h
  split at h
  · rcases wmg_at hcl h with ⟨h1, h2⟩ | ⟨k, x, h1, h2, h3⟩
    · exact Or.inr ⟨posC_0 (hc _ h1).symm, h2⟩
    · have h4 := posC_s (hc _ h1).symm
      have h5 : k < xs.length := Nat.lt_of_lt_of_le (List.getElem?_eq_some_iff.mp h4).1 hlen
      rw [List.getElem?_eq_getElem h5] at h3
      exact Or.inl ⟨k, by rw [List.getElem?_eq_getElem h5, h3]; rfl, Or.inl h4⟩
  · rename_i hge
    rw [wmg_len] at h hge
    rw [List.getElem?_drop] at h
    exact Or.inl ⟨is.length + (j - ws.length), h, Or.inr ⟨by omega, by omega⟩⟩
theorem wset_ok {A0 : Nat → Prop} {D : va_G} {cl : List vw_C} {ws wc w1 : va_W} {cs is : List Nat} {H H1 : Heap} (hP : va_P D cl ws H) (hD : va_D A0 ws) (hcl : cs.length = ws.length) (hcd : cs = (List.range cs.length).map (posC is)) (hC : is.map (fun i => ws[i]?) = wc.map some) (hlen : is.length ≤ w1.length)
    (hk : ∀ q : Nat, q < H.size → ¬ va_A wc H.size q → H1[q]? = H[q]?) (hF : ∀ q, va_A wc H.size q → A0 q) (hP1 : va_P D cl w1 H1) (hD1 : va_D (va_A wc H.size) w1) : va_P D cl (wset cs ws is w1) H1 ∧ va_D A0 (wset cs ws is w1) := by
  have apart : ∀ (j : Nat) (q : Nat × va_E), j ∉ is → ws[j]? = some q → q.1 < H.size ∧ ¬ va_A wc H.size q.1 := by
    intro j q hj hq
    have hl := (hP j q hq).lt
    refine ⟨hl, fun h => ?_⟩
    rcases h with ⟨k2, e, h⟩ | h
    · have h1 : (is.map (fun i => ws[i]?))[k2]? = some (some (q.1, e)) := by rw [hC, List.getElem?_map, h]; rfl
      rw [List.getElem?_map] at h1
      cases hi : is[k2]? with
      | none => rw [hi] at h1; cases h1
      | some i =>
        rw [hi] at h1
        have h4 : ws[i]? = some (q.1, e) := Option.some.inj h1
        have hij := hD.1 j i q (q.1, e) hq h4 rfl
        subst hij
        exact hj (List.mem_of_getElem? hi)
    · omega
  refine ⟨fun j q hq => ?_, fun i j p q hp hq hpq => ?_, fun j q hq => ?_⟩
  · rcases wset_at hcl hcd hlen hq with ⟨k, h1, -⟩ | ⟨h1, h2⟩
    · exact hP1 k q h1
    · obtain ⟨g1, g2⟩ := apart j q h1 h2
      exact (hP j q h2).kept (hk q.1 g1 g2)
  · rcases wset_at hcl hcd hlen hp with ⟨k, h1, h2⟩ | ⟨h1, h2⟩ <;> rcases wset_at hcl hcd hlen hq with ⟨k', h1', h2'⟩ | ⟨h1', h2'⟩
    · have hkk := hD1.1 k k' p q h1 h1' hpq
      subst hkk
      rcases h2 with h2 | ⟨h2, h3⟩ <;> rcases h2' with h2' | ⟨h2', h3'⟩
      · exact Option.some.inj (h2.symm.trans h2')
      · have := (List.getElem?_eq_some_iff.mp h2).1
        omega
      · have := (List.getElem?_eq_some_iff.mp h2').1
        omega
      · omega
    · exact absurd (by rw [← hpq]; exact hD1.2 k p h1) (apart j q h1' h2').2
    · exact absurd (by rw [hpq]; exact hD1.2 k' q h1') (apart i p h1 h2).2
    · exact hD.1 i j p q h2 h2' hpq
  · rcases wset_at hcl hcd hlen hq with ⟨k, h1, -⟩ | ⟨h1, h2⟩
    · exact hF _ (hD1.2 k q h1)
    · exact hD.2 j q h2
/-- a contract's start: the world, and what the tables say -/
def gB (V : gV) (w0 : va_W) (sz : Nat) (U : State) : Prop := U.heap.size = sz ∧ va_P V.2.1 classes w0 U.heap ∧ va_K V.2.1 classes (gTy V) U ∧ NW U ∧ va_D (fun _ => True) w0
theorem gB_blind {V : gV} {w0 : va_W} {sz : Nat} {av : List Value} : FrameBlind (va_Pc av (gB V w0 sz)) := fun a U g mk q =>
  ⟨q.1, q.2.1, q.2.2.1, va_K.moved (u := U) (U := U.calling g mk a) (Vm.Alike.refl U.vm) q.2.2.2.1, NW.same (u := U) (U := U.calling g mk a) rfl q.2.2.2.2.1, q.2.2.2.2.2⟩
abbrev gAt (V : gV) {S : Type} (w1 : S → va_W) (A : Nat → Prop) (u : S) (t : State) : Prop := va_P V.2.1 classes (w1 u) t.heap ∧ va_D A (w1 u)
def Ki (V : gV) (y : MethodName) (b : ByteArray) (n : Nat) (ret : FieldType) (rm : Room) (av : List Value) (w0 : va_W) {S : Type} (post : Int32 → S → Prop) (w1 : S → va_W) : Prop :=
  ∀ sz : Nat, Met V.1 y (Cond.code y b n (some ret) :: tG) rm (va_Pc av (gB V w0 sz)) (va_Qi post (gAt V w1 (va_A w0 sz)) (va_A w0 sz)) rm.cells rm.slots (va_A w0 sz)
def Kv (V : gV) (y : MethodName) (b : ByteArray) (n : Nat) (rm : Room) (av : List Value) (w0 : va_W) {S : Type} (post : S → Prop) (w1 : S → va_W) : Prop :=
  ∀ sz : Nat, Met V.1 y (Cond.code y b n none :: tG) rm (va_Pc av (gB V w0 sz)) (va_Qv post (gAt V w1 (va_A w0 sz)) (va_A w0 sz)) rm.cells rm.slots (va_A w0 sz)
def gEi (V : gV) (Z : gZ) (ret : FieldType) {S : Type} (post : Int32 → S → Prop) (w1 : S → va_W) (mc ms : Nat) : Prop :=
  Z.2.1.2.2.2.2.1.sig.returnType = some ret ∧ Z.2.2.2.2 = Z.2.1.1.heap ∧ Z.2.2.1 = MQ Z.2.1.2.2.2.1 (va_Qi post (gAt V w1 Z.2.2.2.1) Z.2.2.2.1) Z.2.1.2.2.1 Z.2.1.1 mc ms Z.2.2.2.1
def gEv (V : gV) (Z : gZ) {S : Type} (post : S → Prop) (w1 : S → va_W) (mc ms : Nat) : Prop :=
  Z.2.1.2.2.2.2.1.sig.returnType = none ∧ Z.2.2.2.2 = Z.2.1.1.heap ∧ Z.2.2.1 = MQ Z.2.1.2.2.2.1 (va_Qv post (gAt V w1 Z.2.2.2.1) Z.2.2.2.1) Z.2.1.2.2.1 Z.2.1.1 mc ms Z.2.2.2.1
theorem Ki.of {V : gV} {y : MethodName} {b : ByteArray} {n : Nat} {ret : FieldType} {rm : Room} {av : List Value} {w0 : va_W} {S : Type} {post : Int32 → S → Prop} {w1 : S → va_W} (L0 : List (Option Value)) (hy : plainName y.cls = true) (h1 : (lg_sl av).length ≤ n) (h2 : (av.all fun v => v.category == 1) = true) (h3 : av.map some ++ List.replicate (n - av.length) none = L0)
    (body : ∀ Z : gZ, gX V Z y.cls b n rm → gEi V Z ret post w1 rm.cells rm.slots → G V Z n (0, 0) w0 0 L0 []) : Ki V y b n ret rm av w0 post w1 := by
  intro sz
  refine Met.ofW (cc := b) (maxL := n) (ret := some ret) hy rfl ?_
  intro p e s m args below meth c s₁ B hml hv
  obtain ⟨rfl, hsz, hP, hK, hN, hD0⟩ := hv
  have hts := atoms_spec (ws := Cond.code y b n (some ret) :: tG) B.pre
  subst hsz
  rw [lg_entry_eq]
  exact body ((p, V.1, e, rm), (s, m, av.toArray, below, meth, c), MQ below (va_Qi post (gAt V w1 (va_A w0 s.heap.size)) (va_A w0 s.heap.size)) av.toArray s rm.cells rm.slots (va_A w0 s.heap.size), va_A w0 s.heap.size, s.heap)
    ⟨B.exec, B.bytes, hml, findClass_of_methodNamed B.named, fun w hw => hts w (List.mem_cons_of_mem _ hw), hN, hK, fun q h => Or.inr h, B.notSynchronized, rfl, rfl⟩ ⟨B.returns, rfl, rfl⟩ s.heap [] _ hP hD0.self va_S.rf (gL.entry av h1 h2 h3)
theorem Kv.of {V : gV} {y : MethodName} {b : ByteArray} {n : Nat} {rm : Room} {av : List Value} {w0 : va_W} {S : Type} {post : S → Prop} {w1 : S → va_W} (L0 : List (Option Value)) (hy : plainName y.cls = true) (h1 : (lg_sl av).length ≤ n) (h2 : (av.all fun v => v.category == 1) = true) (h3 : av.map some ++ List.replicate (n - av.length) none = L0)
    (body : ∀ Z : gZ, gX V Z y.cls b n rm → gEv V Z post w1 rm.cells rm.slots → G V Z n (0, 0) w0 0 L0 []) : Kv V y b n rm av w0 post w1 := by
  intro sz
  refine Met.ofW (cc := b) (maxL := n) (ret := none) hy rfl ?_
  intro p e s m args below meth c s₁ B hml hv
  obtain ⟨rfl, hsz, hP, hK, hN, hD0⟩ := hv
  have hts := atoms_spec (ws := Cond.code y b n none :: tG) B.pre
  subst hsz
  rw [lg_entry_eq]
  exact body ((p, V.1, e, rm), (s, m, av.toArray, below, meth, c), MQ below (va_Qv post (gAt V w1 (va_A w0 s.heap.size)) (va_A w0 s.heap.size)) av.toArray s rm.cells rm.slots (va_A w0 s.heap.size), va_A w0 s.heap.size, s.heap)
    ⟨B.exec, B.bytes, hml, findClass_of_methodNamed B.named, fun w hw => hts w (List.mem_cons_of_mem _ hw), hN, hK, fun q h => Or.inr h, B.notSynchronized, rfl, rfl⟩ ⟨B.returns, rfl, rfl⟩ s.heap [] _ hP hD0.self va_S.rf (gL.entry av h1 h2 h3)
-- what a call needs of the tables
abbrev hdOK (y : MethodName) (k : Nat) : Prop := y.cls ≠ "java/lang/invoke/MethodHandle" ∧ y.cls ≠ "java/lang/invoke/VarHandle" ∧ (parseMethodDescriptor y.desc).map (fun d => d.parameters.length) = some k
abbrev MV (y : MethodName) (b : ByteArray) (n : Nat) (ret : Option FieldType) (k : Nat) : Prop := Cond.code y b n ret ∈ lw_tbl ∧ Cond.initialized y.cls ∈ lw_tbl ∧ hdOK y k ∧ Cond.instanceMethod y ∈ lw_tbl ∧ Cond.selects y.cls y y ∈ lw_tbl
abbrev MS (y : MethodName) (b : ByteArray) (n : Nat) (ret : Option FieldType) (k : Nat) : Prop := Cond.code y b n ret ∈ lw_tbl ∧ Cond.initialized y.cls ∈ lw_tbl ∧ hdOK y k ∧ Cond.static y ∈ lw_tbl
abbrev MI (y : MethodName) (b : ByteArray) (n : Nat) (k : Nat) : Prop := Cond.code y b n none ∈ lw_tbl ∧ Cond.initialized y.cls ∈ lw_tbl ∧ hdOK y k ∧ Cond.instanceMethod y ∈ lw_tbl ∧ y.name = "<init>"
def okR (R rm : Room) (n : Nat) (cs : Nat × Nat) (st : List Value) : Bool := Nat.ble (rm.frames + 1) R.frames && (Nat.ble (8 + (n + 11) + rm.locals) R.locals && (Nat.ble (cs.1 + rm.cells) R.cells && (Nat.ble (cs.2 + rm.slots) R.slots && Nat.ble (st.map fun v => v.category).sum 8)))
theorem okR_spec {R rm : Room} {n : Nat} {cs : Nat × Nat} {st : List Value} (h : okR R rm n cs st = true) : (rm.frames + 1 ≤ R.frames ∧ 8 + (n + 11) + rm.locals ≤ R.locals) ∧ (cs.1 + rm.cells ≤ R.cells ∧ cs.2 + rm.slots ≤ R.slots) ∧ (st.map fun v => v.category).sum ≤ 8 := by
  simp only [okR, Bool.and_eq_true, Nat.ble_eq] at h
  exact ⟨⟨h.1, h.2.1⟩, ⟨h.2.2.1, h.2.2.2.1⟩, h.2.2.2.2⟩
section GC
variable {V : gV} {Z : gZ} {own : String} {cc : ByteArray} {nL : Nat} {R : Room} {cs cs' : Nat × Nat} {ws : va_W} {pc : Nat} {L : List (Option Value)} {st : List Value}
theorem gX.locks (X : gX V Z own cc nL R) : Z.2.1.2.2.2.2.1.locks = false := X.2.2.2.2.2.2.2.2.1
theorem g_widen (k n : Nat) (h1 : cs.1 ≤ k) (h2 : cs.2 ≤ n) (kk : G V Z nL (k, n) ws pc L st) : G V Z nL cs ws pc L st := fun H locs ls hP hD hS hL => W.widen h1 h2 (kk H locs ls hP hD hS hL)
theorem g_iret (X : gX V Z own cc nL R) {S : Type} {post : Int32 → S → Prop} {w1 : S → va_W} {mc ms : Nat} (E : gEi V Z .int post w1 mc ms) (d : decode cc pc = .ok (.ireturn, 1)) (u : S) (r : Int32) (hp : post r u) (hw : ws = w1 u) : G V Z nL (mc, ms) ws pc L [.int r] := by
  intro H locs ls hP hD hS hL
  obtain ⟨hr, hH, hQ⟩ := E
  rw [hH] at hS
  rw [hQ]
  subst hw
  exact W.iret X.1 X.2.1 hr (fun t ht hW => ⟨⟨r, u, rfl, hp, by rw [ht]; exact hP, hD⟩, hS.F ht⟩) hS.2.2 d X.locks
theorem g_zret (X : gX V Z own cc nL R) {S : Type} {post : Int32 → S → Prop} {w1 : S → va_W} {mc ms : Nat} {ret : FieldType} (E : gEi V Z ret post w1 mc ms) (d : decode cc pc = .ok (.ireturn, 1)) (u : S) (r : Int32) (hn : narrow ret (.int r) = .int r) (hp : post r u) (hw : ws = w1 u) : G V Z nL (mc, ms) ws pc L [.int r] := by
  intro H locs ls hP hD hS hL
  obtain ⟨hr, hH, hQ⟩ := E
  rw [hH] at hS
  rw [hQ]
  subst hw
  exact W.zret X.1 X.2.1 hr hn (fun t ht hW => ⟨⟨r, u, rfl, hp, by rw [ht]; exact hP, hD⟩, hS.F ht⟩) hS.2.2 d X.locks
theorem g_vret (X : gX V Z own cc nL R) {S : Type} {post : S → Prop} {w1 : S → va_W} {mc ms : Nat} (E : gEv V Z post w1 mc ms) (d : decode cc pc = .ok (.return_, 1)) (u : S) (hp : post u) (hw : ws = w1 u) : G V Z nL (mc, ms) ws pc L [] := by
  intro H locs ls hP hD hS hL
  obtain ⟨hr, hH, hQ⟩ := E
  rw [hH] at hS
  rw [hQ]
  subst hw
  exact W.vret X.1 X.2.1 hr (fun t ht hW => ⟨⟨u, rfl, hp, by rw [ht]; exact hP, hD⟩, hS.F ht⟩) hS.2.2 d X.locks
theorem g_fix (X : gX V Z own cc nL R) : CallFix Z.1.1 Z.2.1.2.1 Z.2.1.2.2.2.2.2 cc nL Z.2.1.1 Z.2.1.2.2.1 tG own := ⟨X.1, X.2.1, X.2.2.1, X.2.2.2.1, X.2.2.2.2.1⟩
theorem g_cat {st : List Value} {h : (st.map fun v => v.category).sum ≤ 8} {m : MethodId} {pc : Nat} {ls : Array Slot} {stk : List Value} : 2 * (F0 m pc ls stk).monitorRoom + (st.map fun v => v.category).sum ≤ 8 := lv_room h
abbrev gRun (V : gV) (Z : gZ) (cs : Nat × Nat) (w0 : va_W) (rm : Room) (pc : Nat) (stk st : List Value) (Qc : Nat → State → Outcome → State → Prop) (H : Heap) (locs : List Loc) (ls : Array Slot) : Prop :=
  va_Run Z.1.1 Z.1.2.1 Z.1.2.2.1 Z.1.2.2.2 Z.2.1.1 Z.2.1.2.1 Z.2.1.2.2.1 Z.2.1.2.2.2.1 Z.2.1.2.2.2.2.1 Z.2.1.2.2.2.2.2 H locs cs.1 cs.2 rm.cells rm.slots (F0 Z.2.1.2.1 pc ls stk) st (Qc H.size) (va_A w0 H.size)
theorem g_endi (X : gX V Z own cc nL R) {S : Type} {post : Int32 → S → Prop} {w1 : S → va_W} {w0 : va_W} {rm : Room} {stk : List Value} {av : List Value} (is co : List Nat) (hcl : co.length = ws.length) (hcd : co = (List.range co.length).map (posC is)) (hC : is.map (fun i => ws[i]?) = w0.map some) (hlen : ∀ u, is.length ≤ (w1 u).length) (hcs : (cs.1 + rm.cells, cs.2 + rm.slots) = cs')
    (hrun : ∀ (H : Heap) (locs : List Loc) (ls : Array Slot), va_P V.2.1 classes ws H → va_D Z.2.2.2.1 ws → va_S Z.2.2.2.1 Z.2.2.2.2 H locs → gL ls nL L → gRun V Z cs w0 rm pc stk st (fun sz => va_Qi post (gAt V w1 (va_A w0 sz)) (va_A w0 sz) av.toArray) H locs ls)
    (k : ∀ (r : Int32) (u : S), post r u → ∀ ws', wset co ws is (w1 u) = ws' → G V Z nL cs' ws' (pc + 3) L (.int r :: st)) : G V Z nL cs ws pc L stk := by
  intro H locs ls hP hD hS hL
  have hFc := va_free (wc := w0) hD hS X.2.2.2.2.2.2.2.1 is hC
  subst hcs
  refine va_calli (hrun H locs ls hP hD hS hL) hS (fun q _ h => hFc q h) hFc ?_
  intro r u t H1 locs1 ht hvm hp hB hz1 hk1 hS1
  obtain ⟨hP1, hD1⟩ := hB
  rw [ht] at hP1
  obtain ⟨hP2, hD2⟩ := wset_ok hP hD hcl hcd hC (hlen u) hk1 hFc hP1 hD1
  exact k r u hp _ rfl H1 locs1 ls hP2 hD2 hS1 hL
theorem g_endv (X : gX V Z own cc nL R) {S : Type} {post : S → Prop} {w1 : S → va_W} {w0 : va_W} {rm : Room} {stk : List Value} {av : List Value} (is co : List Nat) (hcl : co.length = ws.length) (hcd : co = (List.range co.length).map (posC is)) (hC : is.map (fun i => ws[i]?) = w0.map some) (hlen : ∀ u, is.length ≤ (w1 u).length) (hcs : (cs.1 + rm.cells, cs.2 + rm.slots) = cs')
    (hrun : ∀ (H : Heap) (locs : List Loc) (ls : Array Slot), va_P V.2.1 classes ws H → va_D Z.2.2.2.1 ws → va_S Z.2.2.2.1 Z.2.2.2.2 H locs → gL ls nL L → gRun V Z cs w0 rm pc stk st (fun sz => va_Qv post (gAt V w1 (va_A w0 sz)) (va_A w0 sz) av.toArray) H locs ls)
    (k : ∀ (u : S), post u → ∀ ws', wset co ws is (w1 u) = ws' → G V Z nL cs' ws' (pc + 3) L st) : G V Z nL cs ws pc L stk := by
  intro H locs ls hP hD hS hL
  have hFc := va_free (wc := w0) hD hS X.2.2.2.2.2.2.2.1 is hC
  subst hcs
  refine va_callv (hrun H locs ls hP hD hS hL) hS (fun q _ h => hFc q h) hFc ?_
  intro u t H1 locs1 ht hvm hp hB hz1 hk1 hS1
  obtain ⟨hP1, hD1⟩ := hB
  rw [ht] at hP1
  obtain ⟨hP2, hD2⟩ := wset_ok hP hD hcl hcd hC (hlen u) hk1 hFc hP1 hD1
  exact k u hp _ rfl H1 locs1 ls hP2 hD2 hS1 hL
theorem g_pre (X : gX V Z own cc nL R) {w0 : va_W} {is : List Nat} (hn : va_nd is = true) (hC : is.map (fun i => ws[i]?) = w0.map some) {H : Heap} (hP : va_P V.2.1 classes ws H) (hD : va_D Z.2.2.2.1 ws) (av : List Value) : ∀ U : State, U.heap = H → Z.2.1.1.WarmedH U.vm → va_Pc av (gB V w0 H.size) av.toArray U := by
  intro U hU hW
  have hs : is.filterMap (fun i => ws[i]?) = w0 := by
    have h1 : (is.map (fun i => ws[i]?)).filterMap id = (w0.map some).filterMap id := by rw [hC]
    simpa [List.filterMap_map] using h1
  exact ⟨rfl, by rw [hU], by rw [hU]; exact hP.sub is hs, va_K.moved hW.alike X.2.2.2.2.2.2.1, X.2.2.2.2.2.1.warm hW, (hD.sub is hn hC).weaken (fun _ _ _ _ => trivial)⟩
theorem g_cb (X : gX V Z own cc nL R) {y : MethodName} {b : ByteArray} {n idx : Nat} {ret : Option FieldType} {k : Nat} {rm : Room} (h1 : Cond.code y b n ret ∈ lw_tbl) (h2 : Cond.initialized y.cls ∈ lw_tbl) (h3 : hdOK y k) (kl : Cond.methodLink own idx y ∈ lw_tbl) (hR : rm.frames + 1 ≤ R.frames ∧ 8 + (n + 11) + rm.locals ≤ R.locals) : CallB Z.1.2.2.2 Z.2.1.1 Z.2.1.2.2.1 own idx y b n ret (Cond.code y b n ret :: tG) rm rm.cells rm.slots k := by
  have hR2 : rm.frames + 1 ≤ Z.1.2.2.2.frames ∧ 8 + (n + 11) + rm.locals ≤ Z.1.2.2.2.locals := by rw [X.2.2.2.2.2.2.2.2.2.1]; exact hR
  exact callB_of k X.2.2.2.2.1 (goodIn_tG h1) rfl rfl rfl (X.w h2) (X.w kl) h3 hR2
theorem g_cn (X : gX V Z own cc nL R) {y : MethodName} {b : ByteArray} {n idx : Nat} {host : String} {ret : Option FieldType} {k : Nat} {rm : Room} (h1 : Cond.code y b n ret ∈ lw_tbl) (h2 : Cond.initialized y.cls ∈ lw_tbl) (h3 : hdOK y k) (kl : (own, idx, y, host) ∈ nMl) (hR : rm.frames + 1 ≤ R.frames ∧ 8 + (n + 11) + rm.locals ≤ R.locals) : va_CN Z.1.2.2.2 Z.2.1.1 Z.2.1.2.2.1 own idx y host b n ret (Cond.code y b n ret :: tG) rm rm.cells rm.slots k := by
  have hR2 : rm.frames + 1 ≤ Z.1.2.2.2.frames ∧ 8 + (n + 11) + rm.locals ≤ Z.1.2.2.2.locals := by rw [X.2.2.2.2.2.2.2.2.2.1]; exact hR
  exact va_cnB k X.2.2.2.2.1 (goodIn_tG h1) rfl rfl rfl (X.2.2.2.2.2.1.2 _ kl) (X.w h2) h3 hR2
theorem g_rm (X : gX V Z own cc nL R) {rm : Room} (h : cs.1 + rm.cells ≤ R.cells ∧ cs.2 + rm.slots ≤ R.slots) : cs.1 + rm.cells ≤ Z.1.2.2.2.cells ∧ cs.2 + rm.slots ≤ Z.1.2.2.2.slots := by rw [X.2.2.2.2.2.2.2.2.2.1]; exact h
section calls
variable {y : MethodName} {b : ByteArray} {n idx : Nat} {rm : Room} {av : List Value} {w0 : va_W} {S : Type} {stk As : List Value}
theorem g_met (X : gX V Z own cc nL R) {y : MethodName} {ws0 : List Cond} {rm : Room} {Pc : Array Value → State → Prop} {Qc : Array Value → State → Outcome → State → Prop} {mc ms : Nat} {free : Addr → Prop} (h : Met V.1 y ws0 rm Pc Qc mc ms free) : Met Z.1.2.1 y ws0 rm Pc Qc mc ms free := by rw [X.2.2.2.2.2.2.2.2.2.2]; exact h
theorem g_callVi (X : gX V Z own cc nL R) {ret : FieldType} {post : Int32 → S → Prop} {w1 : S → va_W} (hM : Ki V y b n ret rm av w0 post w1) (mo : MV y b n (some ret) As.length) (kl : Cond.methodLink own idx y ∈ lw_tbl) (is co : List Nat) (hcl : co.length = ws.length) (hcd : co = (List.range co.length).map (posC is)) (hn : va_nd is = true) (hC : is.map (fun i => ws[i]?) = w0.map some) (hlen : ∀ u, is.length ≤ (w1 u).length) (q0 ci : Nat) {a N : Nat} {T : u_T} {fs : List Value} (he : ws[q0]? = some (a, .inr (ci, fs))) (hc : classes[ci]? = some (y.cls, T, N)) (hav : av = .ref a :: As) (hs : stk = As.reverse ++ .ref a :: st) (hR : okR R rm n cs st = true) (hcs : (cs.1 + rm.cells, cs.2 + rm.slots) = cs') (d : decode cc pc = .ok (.invokevirtual idx, 3))
    (k : ∀ (r : Int32) (u : S), post r u → ∀ ws', wset co ws is (w1 u) = ws' → G V Z nL cs' ws' (pc + 3) L (.int r :: st)) : G V Z nL cs ws pc L stk := by
  obtain ⟨r1, r2, r3⟩ := okR_spec hR
  refine g_endi X (av := av) is co hcl hcd hC hlen hcs (fun H locs ls hP hD hS hL => ?_) k
  subst hav
  exact va_runV (g_fix X) (g_met X (hM H.size)) ⟨g_cb X mo.1 mo.2.1 mo.2.2.1 kl r1, X.w mo.2.2.2.1, X.w mo.2.2.2.2⟩ ⟨gB_blind, va_recv X.2.2.2.2.2.2.1 hP hc he, g_pre X hn hC hP hD _⟩ rfl rfl hL.1 hs (g_cat (h := r3)) d (g_rm X r2)
theorem g_callVv (X : gX V Z own cc nL R) {post : S → Prop} {w1 : S → va_W} (hM : Kv V y b n rm av w0 post w1) (mo : MV y b n none As.length) (kl : Cond.methodLink own idx y ∈ lw_tbl) (is co : List Nat) (hcl : co.length = ws.length) (hcd : co = (List.range co.length).map (posC is)) (hn : va_nd is = true) (hC : is.map (fun i => ws[i]?) = w0.map some) (hlen : ∀ u, is.length ≤ (w1 u).length) (q0 ci : Nat) {a N : Nat} {T : u_T} {fs : List Value} (he : ws[q0]? = some (a, .inr (ci, fs))) (hc : classes[ci]? = some (y.cls, T, N)) (hav : av = .ref a :: As) (hs : stk = As.reverse ++ .ref a :: st) (hR : okR R rm n cs st = true) (hcs : (cs.1 + rm.cells, cs.2 + rm.slots) = cs') (d : decode cc pc = .ok (.invokevirtual idx, 3))
    (k : ∀ (u : S), post u → ∀ ws', wset co ws is (w1 u) = ws' → G V Z nL cs' ws' (pc + 3) L st) : G V Z nL cs ws pc L stk := by
  obtain ⟨r1, r2, r3⟩ := okR_spec hR
  refine g_endv X (av := av) is co hcl hcd hC hlen hcs (fun H locs ls hP hD hS hL => ?_) k
  subst hav
  exact va_runV (g_fix X) (g_met X (hM H.size)) ⟨g_cb X mo.1 mo.2.1 mo.2.2.1 kl r1, X.w mo.2.2.2.1, X.w mo.2.2.2.2⟩ ⟨gB_blind, va_recv X.2.2.2.2.2.2.1 hP hc he, g_pre X hn hC hP hD _⟩ rfl rfl hL.1 hs (g_cat (h := r3)) d (g_rm X r2)
theorem g_callSi (X : gX V Z own cc nL R) {ret : FieldType} {post : Int32 → S → Prop} {w1 : S → va_W} (hM : Ki V y b n ret rm As w0 post w1) (mo : MS y b n (some ret) As.length) (kl : Cond.methodLink own idx y ∈ lw_tbl) (is co : List Nat) (hcl : co.length = ws.length) (hcd : co = (List.range co.length).map (posC is)) (hn : va_nd is = true) (hC : is.map (fun i => ws[i]?) = w0.map some) (hlen : ∀ u, is.length ≤ (w1 u).length) (hs : stk = As.reverse ++ st) (hR : okR R rm n cs st = true) (hcs : (cs.1 + rm.cells, cs.2 + rm.slots) = cs') (d : decode cc pc = .ok (.invokestatic idx, 3))
    (k : ∀ (r : Int32) (u : S), post r u → ∀ ws', wset co ws is (w1 u) = ws' → G V Z nL cs' ws' (pc + 3) L (.int r :: st)) : G V Z nL cs ws pc L stk := by
  obtain ⟨r1, r2, r3⟩ := okR_spec hR
  refine g_endi X (av := As) is co hcl hcd hC hlen hcs (fun H locs ls hP hD hS hL => ?_) k
  exact va_runS (g_fix X) (g_met X (hM H.size)) ⟨g_cb X mo.1 mo.2.1 mo.2.2.1 kl r1, X.w mo.2.2.2⟩ ⟨gB_blind, g_pre X hn hC hP hD _⟩ rfl rfl hL.1 hs (g_cat (h := r3)) d (g_rm X r2)
theorem g_callSv (X : gX V Z own cc nL R) {post : S → Prop} {w1 : S → va_W} (hM : Kv V y b n rm As w0 post w1) (mo : MS y b n none As.length) (kl : Cond.methodLink own idx y ∈ lw_tbl) (is co : List Nat) (hcl : co.length = ws.length) (hcd : co = (List.range co.length).map (posC is)) (hn : va_nd is = true) (hC : is.map (fun i => ws[i]?) = w0.map some) (hlen : ∀ u, is.length ≤ (w1 u).length) (hs : stk = As.reverse ++ st) (hR : okR R rm n cs st = true) (hcs : (cs.1 + rm.cells, cs.2 + rm.slots) = cs') (d : decode cc pc = .ok (.invokestatic idx, 3))
    (k : ∀ (u : S), post u → ∀ ws', wset co ws is (w1 u) = ws' → G V Z nL cs' ws' (pc + 3) L st) : G V Z nL cs ws pc L stk := by
  obtain ⟨r1, r2, r3⟩ := okR_spec hR
  refine g_endv X (av := As) is co hcl hcd hC hlen hcs (fun H locs ls hP hD hS hL => ?_) k
  exact va_runS (g_fix X) (g_met X (hM H.size)) ⟨g_cb X mo.1 mo.2.1 mo.2.2.1 kl r1, X.w mo.2.2.2⟩ ⟨gB_blind, g_pre X hn hC hP hD _⟩ rfl rfl hL.1 hs (g_cat (h := r3)) d (g_rm X r2)
theorem g_callNi (X : gX V Z own cc nL R) {host : String} {ret : FieldType} {post : Int32 → S → Prop} {w1 : S → va_W} (hM : Ki V y b n ret rm As w0 post w1) (mo : MS y b n (some ret) As.length) (kl : (own, idx, y, host) ∈ nMl) (is co : List Nat) (hcl : co.length = ws.length) (hcd : co = (List.range co.length).map (posC is)) (hn : va_nd is = true) (hC : is.map (fun i => ws[i]?) = w0.map some) (hlen : ∀ u, is.length ≤ (w1 u).length) (hs : stk = As.reverse ++ st) (hR : okR R rm n cs st = true) (hcs : (cs.1 + rm.cells, cs.2 + rm.slots) = cs') (d : decode cc pc = .ok (.invokestatic idx, 3))
    (k : ∀ (r : Int32) (u : S), post r u → ∀ ws', wset co ws is (w1 u) = ws' → G V Z nL cs' ws' (pc + 3) L (.int r :: st)) : G V Z nL cs ws pc L stk := by
  obtain ⟨r1, r2, r3⟩ := okR_spec hR
  refine g_endi X (av := As) is co hcl hcd hC hlen hcs (fun H locs ls hP hD hS hL => ?_) k
  exact va_runSN (g_fix X) (g_met X (hM H.size)) ⟨g_cn X mo.1 mo.2.1 mo.2.2.1 kl r1, X.w mo.2.2.2, trivial⟩ ⟨gB_blind, g_pre X hn hC hP hD _⟩ rfl rfl hL.1 hs (g_cat (h := r3)) d (g_rm X r2)
theorem g_callNv (X : gX V Z own cc nL R) {host : String} {post : S → Prop} {w1 : S → va_W} (hM : Kv V y b n rm As w0 post w1) (mo : MS y b n none As.length) (kl : (own, idx, y, host) ∈ nMl) (is co : List Nat) (hcl : co.length = ws.length) (hcd : co = (List.range co.length).map (posC is)) (hn : va_nd is = true) (hC : is.map (fun i => ws[i]?) = w0.map some) (hlen : ∀ u, is.length ≤ (w1 u).length) (hs : stk = As.reverse ++ st) (hR : okR R rm n cs st = true) (hcs : (cs.1 + rm.cells, cs.2 + rm.slots) = cs') (d : decode cc pc = .ok (.invokestatic idx, 3))
    (k : ∀ (u : S), post u → ∀ ws', wset co ws is (w1 u) = ws' → G V Z nL cs' ws' (pc + 3) L st) : G V Z nL cs ws pc L stk := by
  obtain ⟨r1, r2, r3⟩ := okR_spec hR
  refine g_endv X (av := As) is co hcl hcd hC hlen hcs (fun H locs ls hP hD hS hL => ?_) k
  exact va_runSN (g_fix X) (g_met X (hM H.size)) ⟨g_cn X mo.1 mo.2.1 mo.2.2.1 kl r1, X.w mo.2.2.2, trivial⟩ ⟨gB_blind, g_pre X hn hC hP hD _⟩ rfl rfl hL.1 hs (g_cat (h := r3)) d (g_rm X r2)
theorem g_callIv (X : gX V Z own cc nL R) {a : Nat} {post : S → Prop} {w1 : S → va_W} (hM : Kv V y b n rm av w0 post w1) (mo : MI y b n As.length) (kl : Cond.methodLink own idx y ∈ lw_tbl) (is co : List Nat) (hcl : co.length = ws.length) (hcd : co = (List.range co.length).map (posC is)) (hn : va_nd is = true) (hC : is.map (fun i => ws[i]?) = w0.map some) (hlen : ∀ u, is.length ≤ (w1 u).length) (hav : av = .ref a :: As) (hs : stk = As.reverse ++ .ref a :: st) (hR : okR R rm n cs st = true) (hcs : (cs.1 + rm.cells, cs.2 + rm.slots) = cs') (d : decode cc pc = .ok (.invokespecial idx, 3))
    (k : ∀ (u : S), post u → ∀ ws', wset co ws is (w1 u) = ws' → G V Z nL cs' ws' (pc + 3) L st) : G V Z nL cs ws pc L stk := by
  obtain ⟨r1, r2, r3⟩ := okR_spec hR
  refine g_endv X (av := av) is co hcl hcd hC hlen hcs (fun H locs ls hP hD hS hL => ?_) k
  subst hav
  exact va_runI (g_fix X) (g_met X (hM H.size)) ⟨g_cb X mo.1 mo.2.1 mo.2.2.1 kl r1, mo.2.2.2.2, X.w mo.2.2.2.1⟩ ⟨gB_blind, g_pre X hn hC hP hD _⟩ rfl rfl hL.1 hs (g_cat (h := r3)) d (g_rm X r2)
theorem g_callJv (X : gX V Z own cc nL R) {a : Nat} {host : String} {post : S → Prop} {w1 : S → va_W} (hM : Kv V y b n rm av w0 post w1) (mo : MI y b n As.length) (kl : (own, idx, y, host) ∈ nMl) (is co : List Nat) (hcl : co.length = ws.length) (hcd : co = (List.range co.length).map (posC is)) (hn : va_nd is = true) (hC : is.map (fun i => ws[i]?) = w0.map some) (hlen : ∀ u, is.length ≤ (w1 u).length) (hav : av = .ref a :: As) (hs : stk = As.reverse ++ .ref a :: st) (hR : okR R rm n cs st = true) (hcs : (cs.1 + rm.cells, cs.2 + rm.slots) = cs') (d : decode cc pc = .ok (.invokespecial idx, 3))
    (k : ∀ (u : S), post u → ∀ ws', wset co ws is (w1 u) = ws' → G V Z nL cs' ws' (pc + 3) L st) : G V Z nL cs ws pc L stk := by
  obtain ⟨r1, r2, r3⟩ := okR_spec hR
  refine g_endv X (av := av) is co hcl hcd hC hlen hcs (fun H locs ls hP hD hS hL => ?_) k
  subst hav
  exact va_runIN (g_fix X) (g_met X (hM H.size)) ⟨g_cn X mo.1 mo.2.1 mo.2.2.1 kl r1, mo.2.2.2.2, X.w mo.2.2.2.1⟩ ⟨gB_blind, g_pre X hn hC hP hD _⟩ rfl rfl hL.1 hs (g_cat (h := r3)) d (g_rm X r2)
end calls
end GC
