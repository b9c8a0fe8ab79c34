-- contracts of constructors
def gB2 (V : gV) (w0 : va_W) (sz : Nat) (U : State) : Prop := gB V w0 sz U ∧ va_AO RX8 U
theorem gB2_blind {V : gV} {w0 : va_W} {sz : Nat} {av : List Value} : FrameBlind (va_Pc av (gB2 V w0 sz)) := fun a U g mk q =>
  have h := gB_blind (V := V) (w0 := w0) (sz := sz) (av := av) a U g mk ⟨q.1, q.2.1⟩
  ⟨h.1, h.2, va_AO.moved (u := U) (U := U.calling g mk a) (Vm.Alike.refl U.vm) q.2.2⟩
def KC (V : gV) (y : MethodName) (b : ByteArray) (n : Nat) (rm : Room) (av : List Value) (w0 : va_W) {S : Type} (post : S → Prop) (w1 : S → va_W) : Prop :=
  ∀ sz : Nat, Met V.1 y (Cond.code y b n none :: tG) rm (va_Pc av (gB2 V w0 sz)) (va_Qv post (gAt V w1 (va_A w0 sz)) (va_A w0 sz)) rm.cells rm.slots (va_A w0 sz)
theorem KC.of {V : gV} {y : MethodName} {b : ByteArray} {n : Nat} {rm : Room} {av : List Value} {w0 : va_W} {S : Type} {post : S → Prop} {w1 : S → va_W} (L0 : List (Option Value)) (hy : plainName y.cls = true) (hyn : y.name = "<init>") (h1 : (lg_sl av).length ≤ n) (h2 : (av.all fun v => v.category == 1) = true) (h3 : av.map some ++ List.replicate (n - av.length) none = L0)
    (body : ∀ Z : gZ, gX V Z y.cls b n rm → gEv V Z post w1 rm.cells rm.slots → Z.2.1.2.2.2.2.1.name = "<init>" → va_AO RX8 Z.2.1.1 → G V Z n (0, 0) w0 0 L0 []) : KC V y b n rm av w0 post w1 := by
  intro sz
  refine Met.ofW (cc := b) (maxL := n) (ret := none) hy rfl ?_
  intro p e s m args below meth c s₁ B hml hv
  obtain ⟨rfl, ⟨hsz, hP, hK, hN, hD0⟩, hA⟩ := hv
  have hts := atoms_spec (ws := Cond.code y b n none :: tG) B.pre
  have hin : meth.name = "<init>" := (name_of_methodNamed B.named B.method).1.trans hyn
  subst hsz
  rw [lg_entry_eq]
  exact body ((p, V.1, e, rm), (s, m, av.toArray, below, meth, c), MQ below (va_Qv post (gAt V w1 (va_A w0 s.heap.size)) (va_A w0 s.heap.size)) av.toArray s rm.cells rm.slots (va_A w0 s.heap.size), va_A w0 s.heap.size, s.heap)
    ⟨B.exec, B.bytes, hml, findClass_of_methodNamed B.named, fun w hw => hts w (List.mem_cons_of_mem _ hw), hN, hK, fun q h => Or.inr h, B.notSynchronized, rfl, rfl⟩ ⟨B.returns, rfl, rfl⟩ hin hA s.heap [] _ hP hD0.self va_S.rf (gL.entry av h1 h2 h3)
section GK
variable {V : gV} {Z : gZ} {own : String} {cc : ByteArray} {nL : Nat} {R : Room} {cs cs' : Nat × Nat} {ws : va_W} {pc : Nat} {L : List (Option Value)} {st : List Value}
variable {y : MethodName} {b : ByteArray} {n idx : Nat} {rm : Room} {av : List Value} {w0 : va_W} {S : Type} {stk As : List Value}
theorem g_pre2 (X : gX V Z own cc nL R) (hA : va_AO RX8 Z.2.1.1) {w0 : va_W} {is : List Nat} (hn : va_nd is = true) (hC : is.map (fun i => ws[i]?) = w0.map some) {H : Heap} (hP : va_P V.2.1 classes ws H) (hD : va_D Z.2.2.2.1 ws) (av : List Value) : ∀ U : State, U.heap = H → Z.2.1.1.WarmedH U.vm → va_Pc av (gB2 V w0 H.size) av.toArray U := by
  intro U hU hW
  have h := g_pre X hn hC hP hD av U hU hW
  exact ⟨h.1, h.2, va_AO.moved hW.alike hA⟩
theorem g_callKI (X : gX V Z own cc nL R) (hA : va_AO RX8 Z.2.1.1) {a : Nat} {post : S → Prop} {w1 : S → va_W} (hM : KC V y b n rm av w0 post w1) (mo : MI y b n As.length) (kl : Cond.methodLink own idx y ∈ lw_tbl) (is co : List Nat) (hcl : co.length = ws.length) (hcd : co = (List.range co.length).map (posC is)) (hn : va_nd is = true) (hC : is.map (fun i => ws[i]?) = w0.map some) (hlen : ∀ u, is.length ≤ (w1 u).length) (hav : av = .ref a :: As) (hs : stk = As.reverse ++ .ref a :: st) (hR : okR R rm n cs st = true) (hcs : (cs.1 + rm.cells, cs.2 + rm.slots) = cs') (d : decode cc pc = .ok (.invokespecial idx, 3))
    (k : ∀ (u : S), post u → ∀ ws', wset co ws is (w1 u) = ws' → G V Z nL cs' ws' (pc + 3) L st) : G V Z nL cs ws pc L stk := by
  obtain ⟨r1, r2, r3⟩ := okR_spec hR
  refine g_endv X (av := av) is co hcl hcd hC hlen hcs (fun H locs ls hP hD hS hL => ?_) k
  subst hav
  exact va_runI (g_fix X) (g_met X (hM H.size)) ⟨g_cb X mo.1 mo.2.1 mo.2.2.1 kl r1, mo.2.2.2.2, X.w mo.2.2.2.1⟩ ⟨gB2_blind, g_pre2 X hA hn hC hP hD _⟩ rfl rfl hL.1 hs (g_cat (h := r3)) d (g_rm X r2)
theorem g_callKJ (X : gX V Z own cc nL R) (hA : va_AO RX8 Z.2.1.1) {a : Nat} {host : String} {post : S → Prop} {w1 : S → va_W} (hM : KC V y b n rm av w0 post w1) (mo : MI y b n As.length) (kl : (own, idx, y, host) ∈ nMl) (is co : List Nat) (hcl : co.length = ws.length) (hcd : co = (List.range co.length).map (posC is)) (hn : va_nd is = true) (hC : is.map (fun i => ws[i]?) = w0.map some) (hlen : ∀ u, is.length ≤ (w1 u).length) (hav : av = .ref a :: As) (hs : stk = As.reverse ++ .ref a :: st) (hR : okR R rm n cs st = true) (hcs : (cs.1 + rm.cells, cs.2 + rm.slots) = cs') (d : decode cc pc = .ok (.invokespecial idx, 3))
    (k : ∀ (u : S), post u → ∀ ws', wset co ws is (w1 u) = ws' → G V Z nL cs' ws' (pc + 3) L st) : G V Z nL cs ws pc L stk := by
  obtain ⟨r1, r2, r3⟩ := okR_spec hR
  refine g_endv X (av := av) is co hcl hcd hC hlen hcs (fun H locs ls hP hD hS hL => ?_) k
  subst hav
  exact va_runIN (g_fix X) (g_met X (hM H.size)) ⟨g_cn X mo.1 mo.2.1 mo.2.2.1 kl r1, mo.2.2.2.2, X.w mo.2.2.2.1⟩ ⟨gB2_blind, g_pre2 X hA hn hC hP hD _⟩ rfl rfl hL.1 hs (g_cat (h := r3)) d (g_rm X r2)
end GK
