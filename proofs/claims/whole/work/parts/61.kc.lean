-- contracts of constructors
def gB2 (V : gV) (w0 : va_W) (sz : Nat) (U : State) : Prop := gB V w0 sz U ∧ va_AO RX8 U
theorem gB2_blind {V : gV} {w0 : va_W} {sz : Nat} {av : List Value} : FrameBlind (va_Pc av (gB2 V w0 sz)) := fun a U g mk q =>
  have h := gB_blind (V := V) (w0 := w0) (sz := sz) (av := av) a U g mk ⟨q.1, q.2.1⟩
  ⟨h.1, h.2, va_AO.moved (u := U) (U := U.calling g mk a) (Vm.Alike.refl U.vm) q.2.2⟩
def KC (V : gV) (y : MethodName) (b : ByteArray) (n : Nat) (rm : Room) (av : List Value) (w0 : va_W) {S : Type} (post : S → Prop) (w1 : S → va_W) : Prop :=
  ∀ sz : Nat, Met V.1 y (Cond.code y b n none :: tG) rm (va_Pc av (gB2 V w0 sz)) (va_Qv post (gAt V w1 (va_A w0 sz)) (va_A w0 sz)) rm.cells rm.slots (va_A w0 sz)
theorem KC.of {V : gV} {y : MethodName} {b : ByteArray} {n : Nat} {rm : Room} {av : List Value} {w0 : va_W} {S : Type} {post : S → Prop} {w1 : S → va_W} (L0 : List (Option Value)) (hy : plainName y.cls = true) (hyn : y.name = "<init>") (h1 : (lg_sl av).length ≤ n) (h2 : (av.all fun v => v.category == 1) = true) (h3 : av.map some ++ List.replicate (n - av.length) none = L0)
    (body : ∀ Z : gZ, gX V Z y.cls b n rm → gEv V Z post w1 rm.cells rm.slots → Z.2.1.2.2.2.2.1.name = "<init>" → va_AO RX8 Z.2.1.1 → G V Z n (0, 0) w0 0 L0 []) : KC V y b n rm av w0 post w1 := by
  intro sz
  refine Met.ofW (cc := b) (maxL := n) (ret := none) hy rfl ?_
  intro p e s m args below meth c s₁ B hml hv
  obtain ⟨rfl, ⟨hsz, hP, hK, hN, hD0⟩, hA⟩ := hv
  have hts := atoms_spec (ws := Cond.code y b n none :: tG) B.pre
  have hin : meth.name = "<init>" := (name_of_methodNamed B.named B.method).1.trans hyn
  subst hsz
  rw [lg_entry_eq]
  exact body ((p, V.1, e, rm), (s, m, av.toArray, below, meth, c), MQ below (va_Qv post (gAt V w1 (va_A w0 s.heap.size)) (va_A w0 s.heap.size)) av.toArray s rm.cells rm.slots (va_A w0 s.heap.size), va_A w0 s.heap.size, s.heap)
    ⟨B.exec, B.bytes, hml, findClass_of_methodNamed B.named, fun w hw => hts w (List.mem_cons_of_mem _ hw), hN, hK, fun q h => Or.inr h, B.notSynchronized, rfl, rfl⟩ ⟨B.returns, rfl, rfl⟩ hin hA s.heap [] _ hP hD0.self va_S.rf (gL.entry av h1 h2 h3)
