-- Object.<init>, and the String constant
def sTx : String := "c0,100,10;c1,112,11;c2,95,10;c3,130,9;c4,80,12;w0,1;w1,2;w3,4;l0,0,1;l1,1,2;l2,2,4;l6,0,4;l9,4,3;"
def lts : List Int32 := [99, 48, 44, 49, 48, 48, 44, 49, 48, 59, 99, 49, 44, 49, 49, 50, 44, 49, 49, 59, 99, 50, 44, 57, 53, 44, 49, 48, 59, 99, 51, 44, 49, 51, 48, 44, 57, 59, 99, 52, 44, 56, 48, 44, 49, 50, 59, 119, 48, 44, 49, 59, 119, 49, 44, 50, 59, 119, 51, 44, 52, 59, 108, 48, 44, 48, 44, 49, 59, 108, 49, 44, 49, 44, 50, 59, 108, 50, 44, 50, 44, 52, 59, 108, 54, 44, 48, 44, 52, 59, 108, 57, 44, 52, 44, 51, 59]
theorem lts_ok : ∀ i : Nat, i < 97 → (((lts.getD i 0 &&& 255).toUInt32 % 65536).toInt32 = lts.getD i 0 ∧ narrow .char (.int (lts.getD i 0)) = .int (lts.getD i 0)) ∧ (32 ≤ lts.getD i 0 ∧ lts.getD i 0 ≤ 126) := by decide +kernel
/-- what the String constant is, what the statics hold -/
def SK (q : Nat × Nat × Option Nat) (A : Nat → Prop) (U : State) (H : Heap) : Prop :=
  va_AO RX8 U ∧ va_O "java/lang/String" q.1 A U H ∧ va_OF "java/lang/String" "coder" "B" (.int 0) q.1 A U H ∧ va_OF "java/lang/String" "value" "[B" (.ref q.2.1) q.1 A U H ∧ va_T .byte q.2.1 97 (fun j => .int (lts.getD j 0)) A U H ∧ va_Z "java/lang/String" "COMPACT_STRINGS" "Z" (.int 1) A U H ∧ va_Z "jdk/internal/util/Preconditions" "SIOOBE_FORMATTER" "Ljava/util/function/BiFunction;" (va_rf q.2.2) A U H ∧ vk_R RX10 78 sTx q.1 U
theorem SK.to {q : Nat × Nat × Option Nat} {A B : Nat → Prop} {u U : State} {H H1 : Heap} (h : SK q A u H) (hvm : u.vm.Alike U.vm) (hr : vk_R RX10 78 sTx q.1 u → vk_R RX10 78 sTx q.1 U) (hq : ∀ a : Nat, a < H.size → ¬ A a → H1[a]? = H[a]?) (hAB : ∀ q, B q → A q) : SK q B U H1 := by
  obtain ⟨h1, h2, h3, h4, h5, h6, h7, h8⟩ := h
  exact ⟨va_AO.moved hvm h1, va_O.moved hvm ((h2.kept hq).narrow hAB), va_OF.moved hvm ((h3.kept hq).narrow hAB), va_OF.moved hvm ((h4.kept hq).narrow hAB), va_T.moved hvm ((h5.kept hq).narrow hAB), va_Z.moved hvm ((h6.kept hq).narrow hAB), va_Z.moved hvm ((h7.kept hq).narrow hAB), hr h8⟩
def gB3 (V : gV) (q : Nat × Nat × Option Nat) (w0 : va_W) (sz : Nat) (U : State) : Prop := gB V w0 sz U ∧ SK q (va_A w0 sz) U U.heap
theorem gB3_blind {V : gV} {q : Nat × Nat × Option Nat} {w0 : va_W} {sz : Nat} {av : List Value} : FrameBlind (va_Pc av (gB3 V q w0 sz)) := fun a U g mk z =>
  have h := gB_blind (V := V) (w0 := w0) (sz := sz) (av := av) a U g mk ⟨z.1, z.2.1⟩
  ⟨h.1, h.2, z.2.2.to (u := U) (U := U.calling g mk a) (Vm.Alike.refl U.vm) (fun x => vk_R.same (u := U) (U := U.calling g mk a) rfl x) (fun _ _ _ => rfl) (fun _ x => x)⟩
def KSi (V : gV) (q : Nat × Nat × Option Nat) (y : MethodName) (b : ByteArray) (n : Nat) (ret : FieldType) (rm : Room) (av : List Value) (w0 : va_W) {S : Type} (post : Int32 → S → Prop) (w1 : S → va_W) : Prop :=
  ∀ sz : Nat, Met V.1 y (Cond.code y b n (some ret) :: tG) rm (va_Pc av (gB3 V q w0 sz)) (va_Qi post (gAt V w1 (va_A w0 sz)) (va_A w0 sz)) rm.cells rm.slots (va_A w0 sz)
def KSv (V : gV) (q : Nat × Nat × Option Nat) (y : MethodName) (b : ByteArray) (n : Nat) (rm : Room) (av : List Value) (w0 : va_W) {S : Type} (post : S → Prop) (w1 : S → va_W) : Prop :=
  ∀ sz : Nat, Met V.1 y (Cond.code y b n none :: tG) rm (va_Pc av (gB3 V q w0 sz)) (va_Qv post (gAt V w1 (va_A w0 sz)) (va_A w0 sz)) rm.cells rm.slots (va_A w0 sz)
theorem KSi.of {V : gV} {q : Nat × Nat × Option Nat} {y : MethodName} {b : ByteArray} {n : Nat} {ret : FieldType} {rm : Room} {av : List Value} {w0 : va_W} {S : Type} {post : Int32 → S → Prop} {w1 : S → va_W} (L0 : List (Option Value)) (hy : plainName y.cls = true) (h1 : (lg_sl av).length ≤ n) (h2 : (av.all fun v => v.category == 1) = true) (h3 : av.map some ++ List.replicate (n - av.length) none = L0)
    (body : ∀ Z : gZ, gX V Z y.cls b n rm → gEi V Z ret post w1 rm.cells rm.slots → SK q Z.2.2.2.1 Z.2.1.1 Z.2.1.1.heap → G V Z n (0, 0) w0 0 L0 []) : KSi V q y b n ret rm av w0 post w1 := by
  intro sz
  refine Met.ofW (cc := b) (maxL := n) (ret := some ret) hy rfl ?_
  intro p e s m args below meth c s₁ B hml hv
  obtain ⟨rfl, ⟨hsz, hP, hK, hN, hD0⟩, hA⟩ := hv
  have hts := atoms_spec (ws := Cond.code y b n (some ret) :: tG) B.pre
  subst hsz
  rw [lg_entry_eq]
  exact body ((p, V.1, e, rm), (s, m, av.toArray, below, meth, c), MQ below (va_Qi post (gAt V w1 (va_A w0 s.heap.size)) (va_A w0 s.heap.size)) av.toArray s rm.cells rm.slots (va_A w0 s.heap.size), va_A w0 s.heap.size, s.heap)
    ⟨B.exec, B.bytes, hml, findClass_of_methodNamed B.named, fun w hw => hts w (List.mem_cons_of_mem _ hw), hN, hK, fun q h => Or.inr h, B.notSynchronized, rfl, rfl⟩ ⟨B.returns, rfl, rfl⟩ hA s.heap [] _ hP hD0.self va_S.rf (gL.entry av h1 h2 h3)
theorem KSv.of {V : gV} {q : Nat × Nat × Option Nat} {y : MethodName} {b : ByteArray} {n : Nat} {rm : Room} {av : List Value} {w0 : va_W} {S : Type} {post : S → Prop} {w1 : S → va_W} (L0 : List (Option Value)) (hy : plainName y.cls = true) (h1 : (lg_sl av).length ≤ n) (h2 : (av.all fun v => v.category == 1) = true) (h3 : av.map some ++ List.replicate (n - av.length) none = L0)
    (body : ∀ Z : gZ, gX V Z y.cls b n rm → gEv V Z post w1 rm.cells rm.slots → (y.name = "<init>" → Z.2.1.2.2.2.2.1.name = "<init>") → SK q Z.2.2.2.1 Z.2.1.1 Z.2.1.1.heap → G V Z n (0, 0) w0 0 L0 []) : KSv V q y b n rm av w0 post w1 := by
  intro sz
  refine Met.ofW (cc := b) (maxL := n) (ret := none) hy rfl ?_
  intro p e s m args below meth c s₁ B hml hv
  obtain ⟨rfl, ⟨hsz, hP, hK, hN, hD0⟩, hA⟩ := hv
  have hts := atoms_spec (ws := Cond.code y b n none :: tG) B.pre
  have hin : y.name = "<init>" → meth.name = "<init>" := fun hyn => (name_of_methodNamed B.named B.method).1.trans hyn
  subst hsz
  rw [lg_entry_eq]
  exact body ((p, V.1, e, rm), (s, m, av.toArray, below, meth, c), MQ below (va_Qv post (gAt V w1 (va_A w0 s.heap.size)) (va_A w0 s.heap.size)) av.toArray s rm.cells rm.slots (va_A w0 s.heap.size), va_A w0 s.heap.size, s.heap)
    ⟨B.exec, B.bytes, hml, findClass_of_methodNamed B.named, fun w hw => hts w (List.mem_cons_of_mem _ hw), hN, hK, fun q h => Or.inr h, B.notSynchronized, rfl, rfl⟩ ⟨B.returns, rfl, rfl⟩ hin hA s.heap [] _ hP hD0.self va_S.rf (gL.entry av h1 h2 h3)
def okO (R : Room) (st : List Value) : Bool := Nat.ble 1 R.frames && (Nat.ble 20 R.locals && Nat.ble (st.map fun v => v.category).sum 8)
theorem okO_spec {R : Room} {st : List Value} (h : okO R st = true) : 1 ≤ R.frames ∧ 20 ≤ R.locals ∧ (st.map fun v => v.category).sum ≤ 8 := by
  simp only [okO, Bool.and_eq_true, Nat.ble_eq] at h
  exact ⟨h.1, h.2.1, h.2.2⟩
section GO
variable {V : gV} {Z : gZ} {own : String} {cc : ByteArray} {nL : Nat} {R : Room} {cs cs' : Nat × Nat} {ws : va_W} {pc : Nat} {L : List (Option Value)} {st : List Value}
theorem g_obj (X : gX V Z own cc nL R) {idx a : Nat} (kl : Cond.methodLink own idx objectInit ∈ lw_tbl) (hR : okO R st = true) (d : decode cc pc = .ok (.invokespecial idx, 3)) (k : G V Z nL cs ws (pc + 3) L st) : G V Z nL cs ws pc L (.ref a :: st) := by
  intro H locs ls hP hD hS hL
  obtain ⟨h1, h2, h3⟩ := okO_spec hR
  have hR' : Z.1.2.2.2 = R := X.2.2.2.2.2.2.2.2.2.1
  exact W.objInit X.1 X.2.1 X.2.2.2.1 (X.w kl) (X.w ki_obj) (X.w kc_obj) rfl (hL.1.trans X.2.2.1.symm) rfl d (by rw [hR']; exact h1) (by
    rw [hR']
    show 2 * 0 + _ + 12 ≤ R.locals
    omega) (k H locs ls hP hD hS hL)
theorem g_i2c (X : gX V Z own cc nL R) {x : Int32} (v : Int32) (d : decode cc pc = .ok (.i2c, 1)) (hv : (x.toUInt32 % 65536).toInt32 = v) (k : G V Z nL cs ws (pc + 1) L (.int v :: st)) : G V Z nL cs ws pc L (.int x :: st) := fun H locs ls hP hD hS hL => lv_i2c X.1 X.2.1 d hv (k H locs ls hP hD hS hL)
theorem g_loadv_n (X : gX V Z own cc nL R) {j : Fin 4} {x : Option Nat} (d : decode cc pc = .ok (.aload_n j, 1)) (h : L[(j : Nat)]? = some (some (va_rf x))) (k : G V Z nL cs ws (pc + 1) L (va_rf x :: st)) : G V Z nL cs ws pc L st := by
  cases x with
  | none => exact fun H locs ls hP hD hS hL => lv_aload_nN X.1 X.2.1 d rfl (hL.at h) (k H locs ls hP hD hS hL)
  | some a => exact fun H locs ls hP hD hS hL => lv_aload_n X.1 X.2.1 d rfl (hL.at h) (k H locs ls hP hD hS hL)
theorem g_ldcS (X : gX V Z own cc nL R) {q idx : Nat} {tx : String} (hZ : vk_R own idx tx q Z.2.1.1) (d : decode cc pc = .ok (.ldc idx, 2)) (k : G V Z nL cs ws (pc + 2) L (.ref q :: st)) : G V Z nL cs ws pc L st := fun H locs ls hP hD hS hL => va_ldcS X.1 X.2.1 X.2.2.2.1 hZ d (k H locs ls hP hD hS hL)
theorem g_gets (X : gX V Z own cc nL R) (hH : Z.2.2.2.2 = Z.2.1.1.heap) {C n dd : String} {v : Value} {idx : Nat} (hZ : va_Z C n dd v Z.2.2.2.1 Z.2.1.1 Z.2.1.1.heap) (kl : Cond.fieldLink own idx C n dd ∈ lw_tbl) (d : decode cc pc = .ok (.getstatic idx, 3)) (k : G V Z nL cs ws (pc + 3) L (v :: st)) : G V Z nL cs ws pc L st := fun H locs ls hP hD hS hL => va_gets X.1 X.2.1 hZ (by rw [← hH]; exact hS) X.2.2.2.1 (X.w kl) (fun _ h => h) d (k H locs ls hP hD hS hL)
theorem g_getc (X : gX V Z own cc nL R) (hH : Z.2.2.2.2 = Z.2.1.1.heap) {C n dd : String} {v : Value} {idx q : Nat} (hE : va_OF C n dd v q Z.2.2.2.1 Z.2.1.1 Z.2.1.1.heap) (kl : Cond.fieldLink own idx C n dd ∈ lw_tbl) (d : decode cc pc = .ok (.getfield idx, 3)) (k : G V Z nL cs ws (pc + 3) L (v :: st)) : G V Z nL cs ws pc L (.ref q :: st) := fun H locs ls hP hD hS hL => vk_getf X.1 X.2.1 hE (by rw [← hH]; exact hS) X.2.2.2.1 (X.w kl) (fun _ h => h) d (k H locs ls hP hD hS hL)
theorem g_tb (X : gX V Z own cc nL R) (hH : Z.2.2.2.2 = Z.2.1.1.heap) {t N : Nat} {f : Nat → Value} (hT : va_T .byte t N f Z.2.2.2.1 Z.2.1.1 Z.2.1.1.heap) {i : Int32} (hin : vp_in i N) (v : Value) (hv : f i.toNatClampNeg = v) (d : decode cc pc = .ok (.baload, 1)) (k : G V Z nL cs ws (pc + 1) L (v :: st)) : G V Z nL cs ws pc L (.int i :: .ref t :: st) := fun H locs ls hP hD hS hL => va_tb X.1 X.2.1 hT (by rw [← hH]; exact hS) hin hv d (k H locs ls hP hD hS hL)
theorem g_tlen (X : gX V Z own cc nL R) (hH : Z.2.2.2.2 = Z.2.1.1.heap) {ty : FieldType} {t N : Nat} {f : Nat → Value} (hT : va_T ty t N f Z.2.2.2.1 Z.2.1.1 Z.2.1.1.heap) (v : Int32) (hv : Int32.ofNat N = v) (d : decode cc pc = .ok (.arraylength, 1)) (k : G V Z nL cs ws (pc + 1) L (.int v :: st)) : G V Z nL cs ws pc L (.ref t :: st) := fun H locs ls hP hD hS hL => va_tlen X.1 X.2.1 hT (by rw [← hH]; exact hS) hv d (k H locs ls hP hD hS hL)
variable {q : Nat × Nat × Option Nat} {y : MethodName} {b : ByteArray} {n idx : Nat} {rm : Room} {av : List Value} {w0 : va_W} {S : Type} {stk As : List Value}
theorem g_preS (X : gX V Z own cc nL R) (hH : Z.2.2.2.2 = Z.2.1.1.heap) (hK : SK q Z.2.2.2.1 Z.2.1.1 Z.2.1.1.heap) {w0 : va_W} {is : List Nat} (hn : va_nd is = true) (hC : is.map (fun i => ws[i]?) = w0.map some) {H : Heap} {locs : List Loc} (hP : va_P V.2.1 classes ws H) (hD : va_D Z.2.2.2.1 ws) (hS : va_S Z.2.2.2.1 Z.2.2.2.2 H locs) (av : List Value) : ∀ U : State, U.heap = H → Z.2.1.1.WarmedH U.vm → va_Pc av (gB3 V q w0 H.size) av.toArray U := by
  intro U hU hW
  have h := g_pre X hn hC hP hD av U hU hW
  have hFc := va_free (wc := w0) hD hS X.2.2.2.2.2.2.2.1 is hC
  rw [hH] at hS
  exact ⟨h.1, h.2, hK.to hW.alike (fun x => x.warm hW) (by rw [hU]; exact hS.2.1) hFc⟩
theorem g_preSU (X : gX V Z own cc nL R) (hH : Z.2.2.2.2 = Z.2.1.1.heap) (hK : SK q Z.2.2.2.1 Z.2.1.1 Z.2.1.1.heap) {H : Heap} {locs : List Loc} (hS : va_S Z.2.2.2.1 Z.2.2.2.2 H locs) : ∃ cell : Cell, H[q.1]? = some cell ∧ cell.vm.isStatics = false ∧ Z.2.1.1.vm.findClass "java/lang/String" = some cell.cls := by
  rw [hH] at hS
  obtain ⟨cell, h1, h2, h3, -⟩ := hK.2.1.kept hS.2.1
  exact ⟨cell, h1, h2, h3⟩
theorem g_callTV (X : gX V Z own cc nL R) (hH : Z.2.2.2.2 = Z.2.1.1.heap) (hK : SK q Z.2.2.2.1 Z.2.1.1 Z.2.1.1.heap) {ret : FieldType} {post : Int32 → S → Prop} {w1 : S → va_W} (hM : KSi V q y b n ret rm av w0 post w1) (mo : MV y b n (some ret) As.length) (kl : Cond.methodLink own idx y ∈ lw_tbl) (is co : List Nat) (hcl : co.length = ws.length) (hcd : co = (List.range co.length).map (posC is)) (hn : va_nd is = true) (hC : is.map (fun i => ws[i]?) = w0.map some) (hlen : ∀ u, is.length ≤ (w1 u).length) (hy : y.cls = "java/lang/String") (hav : av = .ref q.1 :: As) (hs : stk = As.reverse ++ .ref q.1 :: st) (hR : okR R rm n cs st = true) (hcs : (cs.1 + rm.cells, cs.2 + rm.slots) = cs') (d : decode cc pc = .ok (.invokevirtual idx, 3))
    (k : ∀ (r : Int32) (u : S), post r u → ∀ ws', wset co ws is (w1 u) = ws' → G V Z nL cs' ws' (pc + 3) L (.int r :: st)) : G V Z nL cs ws pc L stk := by
  obtain ⟨r1, r2, r3⟩ := okR_spec hR
  refine g_endi X (av := av) is co hcl hcd hC hlen hcs (fun H locs ls hP hD hS hL => ?_) k
  subst hav
  exact va_runV (g_fix X) (g_met X (hM H.size)) ⟨g_cb X mo.1 mo.2.1 mo.2.2.1 kl r1, X.w mo.2.2.2.1, X.w mo.2.2.2.2⟩ ⟨gB3_blind, by rw [hy]; exact g_preSU X hH hK hS, g_preS X hH hK hn hC hP hD hS _⟩ rfl rfl hL.1 hs (g_cat (h := r3)) d (g_rm X r2)
theorem g_callTi (X : gX V Z own cc nL R) (hH : Z.2.2.2.2 = Z.2.1.1.heap) (hK : SK q Z.2.2.2.1 Z.2.1.1 Z.2.1.1.heap) {ret : FieldType} {post : Int32 → S → Prop} {w1 : S → va_W} (hM : KSi V q y b n ret rm As w0 post w1) (mo : MS y b n (some ret) As.length) (kl : Cond.methodLink own idx y ∈ lw_tbl) (is co : List Nat) (hcl : co.length = ws.length) (hcd : co = (List.range co.length).map (posC is)) (hn : va_nd is = true) (hC : is.map (fun i => ws[i]?) = w0.map some) (hlen : ∀ u, is.length ≤ (w1 u).length) (hs : stk = As.reverse ++ st) (hR : okR R rm n cs st = true) (hcs : (cs.1 + rm.cells, cs.2 + rm.slots) = cs') (d : decode cc pc = .ok (.invokestatic idx, 3))
    (k : ∀ (r : Int32) (u : S), post r u → ∀ ws', wset co ws is (w1 u) = ws' → G V Z nL cs' ws' (pc + 3) L (.int r :: st)) : G V Z nL cs ws pc L stk := by
  obtain ⟨r1, r2, r3⟩ := okR_spec hR
  refine g_endi X (av := As) is co hcl hcd hC hlen hcs (fun H locs ls hP hD hS hL => ?_) k
  exact va_runS (g_fix X) (g_met X (hM H.size)) ⟨g_cb X mo.1 mo.2.1 mo.2.2.1 kl r1, X.w mo.2.2.2⟩ ⟨gB3_blind, g_preS X hH hK hn hC hP hD hS _⟩ rfl rfl hL.1 hs (g_cat (h := r3)) d (g_rm X r2)
theorem g_callTv (X : gX V Z own cc nL R) (hH : Z.2.2.2.2 = Z.2.1.1.heap) (hK : SK q Z.2.2.2.1 Z.2.1.1 Z.2.1.1.heap) {post : S → Prop} {w1 : S → va_W} (hM : KSv V q y b n rm As w0 post w1) (mo : MS y b n none As.length) (kl : Cond.methodLink own idx y ∈ lw_tbl) (is co : List Nat) (hcl : co.length = ws.length) (hcd : co = (List.range co.length).map (posC is)) (hn : va_nd is = true) (hC : is.map (fun i => ws[i]?) = w0.map some) (hlen : ∀ u, is.length ≤ (w1 u).length) (hs : stk = As.reverse ++ st) (hR : okR R rm n cs st = true) (hcs : (cs.1 + rm.cells, cs.2 + rm.slots) = cs') (d : decode cc pc = .ok (.invokestatic idx, 3))
    (k : ∀ (u : S), post u → ∀ ws', wset co ws is (w1 u) = ws' → G V Z nL cs' ws' (pc + 3) L st) : G V Z nL cs ws pc L stk := by
  obtain ⟨r1, r2, r3⟩ := okR_spec hR
  refine g_endv X (av := As) is co hcl hcd hC hlen hcs (fun H locs ls hP hD hS hL => ?_) k
  exact va_runS (g_fix X) (g_met X (hM H.size)) ⟨g_cb X mo.1 mo.2.1 mo.2.2.1 kl r1, X.w mo.2.2.2⟩ ⟨gB3_blind, g_preS X hH hK hn hC hP hD hS _⟩ rfl rfl hL.1 hs (g_cat (h := r3)) d (g_rm X r2)
theorem g_callTI (X : gX V Z own cc nL R) (hH : Z.2.2.2.2 = Z.2.1.1.heap) (hK : SK q Z.2.2.2.1 Z.2.1.1 Z.2.1.1.heap) {a : Nat} {post : S → Prop} {w1 : S → va_W} (hM : KSv V q y b n rm av w0 post w1) (mo : MI y b n As.length) (kl : Cond.methodLink own idx y ∈ lw_tbl) (is co : List Nat) (hcl : co.length = ws.length) (hcd : co = (List.range co.length).map (posC is)) (hn : va_nd is = true) (hC : is.map (fun i => ws[i]?) = w0.map some) (hlen : ∀ u, is.length ≤ (w1 u).length) (hav : av = .ref a :: As) (hs : stk = As.reverse ++ .ref a :: st) (hR : okR R rm n cs st = true) (hcs : (cs.1 + rm.cells, cs.2 + rm.slots) = cs') (d : decode cc pc = .ok (.invokespecial idx, 3))
    (k : ∀ (u : S), post u → ∀ ws', wset co ws is (w1 u) = ws' → G V Z nL cs' ws' (pc + 3) L st) : G V Z nL cs ws pc L stk := by
  obtain ⟨r1, r2, r3⟩ := okR_spec hR
  refine g_endv X (av := av) is co hcl hcd hC hlen hcs (fun H locs ls hP hD hS hL => ?_) k
  subst hav
  exact va_runI (g_fix X) (g_met X (hM H.size)) ⟨g_cb X mo.1 mo.2.1 mo.2.2.1 kl r1, mo.2.2.2.2, X.w mo.2.2.2.1⟩ ⟨gB3_blind, g_preS X hH hK hn hC hP hD hS _⟩ rfl rfl hL.1 hs (g_cat (h := r3)) d (g_rm X r2)
end GO
