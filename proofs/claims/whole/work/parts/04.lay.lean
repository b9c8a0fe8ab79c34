-- THE LAYER: a walk's goal G over a world's list, positional locals, and a row an instruction
/-- the tables' words that ride along -/
def tG : List Cond := lw_tbl.filter goodWord
theorem tG_in {w : Cond} (h : w ∈ lw_tbl) (hg : goodWord w = true) : w ∈ tG := List.mem_filter.mpr ⟨h, hg⟩
theorem tG_good (w : Cond) (h : w ∈ tG) : (w.onTables && w.keeps) = true ∨ ∃ ty, w = .arrayClass ty := good_of_word (List.mem_filter.mp h).2
theorem goodIn_tG {y : MethodName} {b : ByteArray} {n : Nat} {r : Option FieldType} (h : Cond.code y b n r ∈ lw_tbl) : GoodIn tG (Cond.code y b n r :: tG) := by
  have hc : Cond.code y b n r ∈ tG := tG_in h rfl
  intro w hw
  rcases List.mem_cons.mp hw with rfl | h1
  · exact ⟨hc, tG_good _ hc⟩
  · exact ⟨h1, tG_good _ h1⟩
/-- the nest mates' links -/
def NW (U : State) : Prop := (∀ q ∈ nFl, va_Nw (.fieldLinkNest q.1 q.2.1 q.2.2.1 q.2.2.2.1 q.2.2.2.2.1 q.2.2.2.2.2) U) ∧ ∀ q ∈ nMl, va_Nw (.methodLinkNest q.1 q.2.1 q.2.2.1 q.2.2.2) U
theorem NW.same {u U : State} (h : u.vm = U.vm) (hN : NW u) : NW U := ⟨fun q hq => (hN.1 q hq).same rfl h, fun q hq => (hN.2 q hq).same rfl h⟩
theorem NW.warm {s U : State} (hW : s.WarmedH U.vm) (hN : NW s) : NW U := ⟨fun q hq => va_Nw.warmF hW (hN.1 q hq), fun q hq => va_Nw.warmM hW (hN.2 q hq)⟩
-- positional locals
def lenc : Nat → List (Option Value) → List (Nat × Value)
  | _, [] => []
  | k, none :: r => lenc (k + 1) r
  | k, some v :: r => (k, v) :: lenc (k + 1) r
theorem lenc_mem {i : Nat} {v : Value} : ∀ {L : List (Option Value)} {k : Nat}, (i, v) ∈ lenc k L ↔ ∃ j, i = k + j ∧ L[j]? = some (some v)
  | [], k => by simp [lenc]
  | none :: r, k => by
    rw [lenc, lenc_mem]
    constructor
    · rintro ⟨j, rfl, h⟩
      exact ⟨j + 1, by omega, by simpa using h⟩
    · rintro ⟨j, rfl, h⟩
      cases j with
      | zero => simp at h
      | succ j => exact ⟨j, by omega, by simpa using h⟩
  | some w :: r, k => by
    rw [lenc, List.mem_cons, lenc_mem]
    constructor
    · rintro (h | ⟨j, rfl, h⟩)
      · cases h
        exact ⟨0, rfl, rfl⟩
      · exact ⟨j + 1, by omega, by simpa using h⟩
    · rintro ⟨j, rfl, h⟩
      cases j with
      | zero =>
        left
        simp at h
        rw [h]
        rfl
      | succ j => exact Or.inr ⟨j, by omega, by simpa using h⟩
def gL (ls : Array Slot) (n : Nat) (L : List (Option Value)) : Prop := lv_has ls n (lenc 0 L)
theorem gL.at {ls : Array Slot} {n : Nat} {L : List (Option Value)} (h : gL ls n L) {i : Nat} {v : Value} (hi : L[i]? = some (some v)) : ls[i]? = some (.val v) := h.2.2 (i, v) (lenc_mem.mpr ⟨i, by omega, hi⟩)
/-- no long just ahead of a place -/
def lok (L : List (Option Value)) (i : Nat) : Bool := match i with
  | 0 => true
  | k + 1 => match L[k]? with
    | some (some w) => w.category == 1
    | _ => true
theorem gL.set {ls' : Array Slot} {n i : Nat} {v : Value} {L L' : List (Option Value)} (h : lv_has ls' n ((i, v) :: (lenc 0 L).filter (fun q => !(q.1 == i) && !(q.1 + 1 == i && q.2.category == 2)))) (hok : lok L i = true) (hL : L.set i (some v) = L') : gL ls' n L' := by
  refine ⟨h.1, h.2.1, ?_⟩
  rintro ⟨j, w⟩ hq
  obtain ⟨j', e1, e2⟩ := lenc_mem.mp hq
  rw [Nat.zero_add] at e1
  subst e1
  subst hL
  refine h.2.2 (j, w) ?_
  by_cases hj : i = j
  · subst hj
    rw [List.getElem?_set] at e2
    split at e2
    · split at e2
      · cases e2
        exact List.mem_cons_self
      · cases e2
    · rename_i hne
      exact absurd rfl hne
  · rw [List.getElem?_set_ne hj] at e2
    refine List.mem_cons_of_mem _ (List.mem_filter.mpr ⟨lenc_mem.mpr ⟨j, by omega, e2⟩, ?_⟩)
    have h1 : (j == i) = false := by simp; omega
    simp only [h1, Bool.not_false, Bool.true_and, Bool.not_eq_true', Bool.and_eq_false_iff]
    by_cases h2 : j + 1 = i
    · right
      subst h2
      simp only [lok, e2] at hok
      have : w.category = 1 := by simpa using hok
      simp [this]
    · left
      simp [h2]
/-- fewer locals -/
def lsub : List (Option Value) → List (Option Value) → Prop
  | [], _ => True
  | none :: a, _ :: b => lsub a b
  | some v :: a, some w :: b => v = w ∧ lsub a b
  | _ :: _, _ => False
theorem lsub_at : ∀ {A B : List (Option Value)}, lsub A B → ∀ {i : Nat} {v : Value}, A[i]? = some (some v) → B[i]? = some (some v)
  | [], _, _, i, v, h => by simp at h
  | none :: a, b :: B, hs, i, v, h => by
    cases i with
    | zero => simp at h
    | succ i => exact lsub_at (A := a) (B := B) (by cases b <;> exact hs) (by simpa using h)
  | some w :: a, some x :: B, hs, i, v, h => by
    cases i with
    | zero =>
      simp at h
      rw [← h, hs.1]
      rfl
    | succ i => exact lsub_at (A := a) (B := B) hs.2 (by simpa using h)
  | some w :: a, none :: B, hs, i, v, h => hs.elim
  | none :: a, [], hs, i, v, h => hs.elim
  | some w :: a, [], hs, i, v, h => hs.elim
theorem gL.sub {ls : Array Slot} {n : Nat} {L L' : List (Option Value)} (h : gL ls n L) (hs : lsub L' L) : gL ls n L' := by
  refine ⟨h.1, h.2.1, ?_⟩
  rintro ⟨j, w⟩ hq
  obtain ⟨j', e1, e2⟩ := lenc_mem.mp hq
  rw [Nat.zero_add] at e1
  subst e1
  exact h.at (lsub_at hs e2)
theorem lv_args_mem {i : Nat} {v : Value} : ∀ {vs : List Value} {k : Nat}, (vs.all fun v => v.category == 1) = true → ∀ j, i = k + j → vs[j]? = some v → (i, v) ∈ lv_args k vs
  | [], k, _, j, _, h => by simp at h
  | w :: vs, k, ha, j, e, h => by
    rw [List.all_cons, Bool.and_eq_true] at ha
    have hw : w.category = 1 := by simpa using ha.1
    rw [lv_args, hw]
    cases j with
    | zero =>
      simp at h
      subst h
      subst e
      exact List.mem_cons_self
    | succ j =>
      refine List.mem_cons_of_mem _ ?_
      rw [if_neg (by decide)]
      exact lv_args_mem ha.2 j (by omega) (by simpa using h)
theorem gL.entry (vs : List Value) {n : Nat} {L : List (Option Value)} (h : (lg_sl vs).length ≤ n) (ha : (vs.all fun v => v.category == 1) = true) (hL : vs.map some ++ List.replicate (n - vs.length) none = L) : gL ((lg_sl vs ++ List.replicate (n - (lg_sl vs).length) Slot.unset).toArray) n L := by
  obtain ⟨h1, h2, h3⟩ := lv_entry vs h
  refine ⟨h1, h2, ?_⟩
  rintro ⟨i, v⟩ hq
  obtain ⟨j, e1, e2⟩ := lenc_mem.mp hq
  rw [Nat.zero_add] at e1
  subst e1
  subst hL
  refine h3 (i, v) (lv_args_mem ha i (by omega) ?_)
  rw [List.getElem?_append] at e2
  split at e2
  · rw [List.getElem?_map] at e2
    cases hv : vs[i]? with
    | none => rw [hv] at e2; cases e2
    | some w => rw [hv] at e2; cases e2; rfl
  · rw [List.getElem?_replicate] at e2
    split at e2 <;> cases e2
-- the still part of a walk
abbrev gZ : Type := (Program × Launch × Env × Room) × (State × MethodId × Array Value × List Frame × Method × Code) × (State → Prop) × (Nat → Prop) × Heap
abbrev gV : Type := Launch × va_G × ClassId × ClassId
abbrev gTy (V : gV) : List (ClassId × FieldType) := [(V.2.2.1, .int), (V.2.2.2, .object RX8)]
def G (V : gV) (Z : gZ) (nL : Nat) (cs : Nat × Nat) (ws : va_W) (pc : Nat) (L : List (Option Value)) (st : List Value) : Prop :=
  ∀ (H : Heap) (locs : List Loc) (ls : Array Slot), va_P V.2.1 classes ws H → va_D Z.2.2.2.1 ws → va_S Z.2.2.2.1 Z.2.2.2.2 H locs → gL ls nL L →
    W Z.1.1 Z.1.2.1 Z.1.2.2.1 Z.1.2.2.2 Z.2.1.1 Z.2.1.2.1 Z.2.1.2.2.1 Z.2.1.2.2.2.1 Z.2.1.2.2.2.2.1 Z.2.1.2.2.2.2.2 H locs cs.1 cs.2 Z.2.2.1 (F0 Z.2.1.2.1 pc ls st)
def gX (V : gV) (Z : gZ) (own : String) (cc : ByteArray) (nL : Nat) (R : Room) : Prop :=
  Z.1.1.tables.exec = Jvm.exec ∧ Z.2.1.2.2.2.2.2.code = cc ∧ Z.2.1.2.2.2.2.2.maxLocals = nL ∧ Z.2.1.1.vm.findClass own = some Z.2.1.2.1.cls ∧ (∀ w ∈ tG, w.before Z.2.1.2.2.1 Z.2.1.1 = true) ∧ NW Z.2.1.1 ∧ va_K V.2.1 classes (gTy V) Z.2.1.1 ∧ (∀ q : Nat, Z.2.2.2.2.size ≤ q → Z.2.2.2.1 q) ∧ Z.2.1.2.2.2.2.1.locks = false ∧ Z.1.2.2.2 = R ∧ Z.1.2.1 = V.1
section GR
variable {V : gV} {Z : gZ} {own : String} {cc : ByteArray} {nL : Nat} {R : Room} {cs : Nat × Nat} {ws : va_W} {pc : Nat} {L : List (Option Value)} {st : List Value}
theorem gX.w (X : gX V Z own cc nL R) {w : Cond} (h : w ∈ lw_tbl) (hg : goodWord w = true := by rfl) : w.before Z.2.1.2.2.1 Z.2.1.1 = true := X.2.2.2.2.1 w (tG_in h hg)
theorem g_sub {L' : List (Option Value)} (hs : lsub L' L) (k : G V Z nL cs ws pc L' st) : G V Z nL cs ws pc L st := fun H locs ls hP hD hS hL => k H locs ls hP hD hS (hL.sub hs)
theorem g_cast {ws' : va_W} {L' : List (Option Value)} {st' : List Value} (k : G V Z nL cs ws' pc L' st') (h1 : ws = ws') (h2 : L = L') (h3 : st = st') : G V Z nL cs ws pc L st := by
  subst h1; subst h2; subst h3; exact k
theorem g_iconst (X : gX V Z own cc nL R) {n : Int} (v : Int32) (d : decode cc pc = .ok (.iconst n, 1)) (hv : Int32.ofInt n = v) (k : G V Z nL cs ws (pc + 1) L (.int v :: st)) : G V Z nL cs ws pc L st := fun H locs ls hP hD hS hL => lv_iconst X.1 X.2.1 d hv (k H locs ls hP hD hS hL)
theorem g_bipush (X : gX V Z own cc nL R) {n : Int} (v : Int32) (d : decode cc pc = .ok (.bipush n, 2)) (hv : (Int8.ofInt n).toInt32 = v) (k : G V Z nL cs ws (pc + 2) L (.int v :: st)) : G V Z nL cs ws pc L st := fun H locs ls hP hD hS hL => lv_bipush X.1 X.2.1 d hv (k H locs ls hP hD hS hL)
theorem g_sipush (X : gX V Z own cc nL R) {n : Int} (v : Int32) (d : decode cc pc = .ok (.sipush n, 3)) (hv : (Int16.ofInt n).toInt32 = v) (k : G V Z nL cs ws (pc + 3) L (.int v :: st)) : G V Z nL cs ws pc L st := fun H locs ls hP hD hS hL => lv_sipush X.1 X.2.1 d hv (k H locs ls hP hD hS hL)
theorem g_iload_n (X : gX V Z own cc nL R) {j : Fin 4} {x : Int32} (d : decode cc pc = .ok (.iload_n j, 1)) (h : L[(j : Nat)]? = some (some (.int x))) (k : G V Z nL cs ws (pc + 1) L (.int x :: st)) : G V Z nL cs ws pc L st := fun H locs ls hP hD hS hL => lv_iload_n X.1 X.2.1 d rfl (hL.at h) (k H locs ls hP hD hS hL)
theorem g_iload (X : gX V Z own cc nL R) {j : Nat} {x : Int32} (d : decode cc pc = .ok (.iload j, 2)) (h : L[j]? = some (some (.int x))) (k : G V Z nL cs ws (pc + 2) L (.int x :: st)) : G V Z nL cs ws pc L st := fun H locs ls hP hD hS hL => lv_iload X.1 X.2.1 d (hL.at h) (k H locs ls hP hD hS hL)
theorem g_aload_n (X : gX V Z own cc nL R) {j : Fin 4} {x : Nat} (d : decode cc pc = .ok (.aload_n j, 1)) (h : L[(j : Nat)]? = some (some (.ref x))) (k : G V Z nL cs ws (pc + 1) L (.ref x :: st)) : G V Z nL cs ws pc L st := fun H locs ls hP hD hS hL => lv_aload_n X.1 X.2.1 d rfl (hL.at h) (k H locs ls hP hD hS hL)
theorem g_istore_n (X : gX V Z own cc nL R) {j : Fin 4} {x : Int32} {L' : List (Option Value)} (d : decode cc pc = .ok (.istore_n j, 1)) (hn : (j : Nat) < nL) (hok : lok L (j : Nat) = true) (hL' : L.set (j : Nat) (some (.int x)) = L') (k : G V Z nL cs ws (pc + 1) L' st) : G V Z nL cs ws pc L (.int x :: st) := fun H locs ls hP hD hS hL => lv_istore_n X.1 X.2.1 d rfl hL hn rfl (fun ls' h' => k H locs ls' hP hD hS (gL.set h' hok hL'))
theorem g_istore (X : gX V Z own cc nL R) {j : Nat} {x : Int32} {L' : List (Option Value)} (d : decode cc pc = .ok (.istore j, 2)) (hn : j < nL) (hok : lok L j = true) (hL' : L.set j (some (.int x)) = L') (k : G V Z nL cs ws (pc + 2) L' st) : G V Z nL cs ws pc L (.int x :: st) := fun H locs ls hP hD hS hL => lv_istore X.1 X.2.1 d hL hn rfl (fun ls' h' => k H locs ls' hP hD hS (gL.set h' hok hL'))
theorem g_astore_n (X : gX V Z own cc nL R) {j : Fin 4} {x : Nat} {L' : List (Option Value)} (d : decode cc pc = .ok (.astore_n j, 1)) (hn : (j : Nat) < nL) (hok : lok L (j : Nat) = true) (hL' : L.set (j : Nat) (some (.ref x)) = L') (k : G V Z nL cs ws (pc + 1) L' st) : G V Z nL cs ws pc L (.ref x :: st) := fun H locs ls hP hD hS hL => lv_astore_n X.1 X.2.1 d rfl hL hn rfl (fun ls' h' => k H locs ls' hP hD hS (gL.set h' hok hL'))
theorem g_iinc (X : gX V Z own cc nL R) {j : Nat} {n : Int} {x : Int32} (v : Int32) {L' : List (Option Value)} (d : decode cc pc = .ok (.iinc j n, 3)) (h : L[j]? = some (some (.int x))) (hv : x + Int32.ofInt n = v) (hn : j < nL) (hok : lok L j = true) (hL' : L.set j (some (.int v)) = L') (k : G V Z nL cs ws (pc + 3) L' st) : G V Z nL cs ws pc L st := by
  intro H locs ls hP hD hS hL
  have hm : (j, Value.int x) ∈ lenc 0 L := lenc_mem.mpr ⟨j, by omega, h⟩
  obtain ⟨q, hq⟩ := List.getElem?_of_mem hm
  exact lv_iinc X.1 X.2.1 d hL hq hv hn rfl (fun ls' h' => k H locs ls' hP hD hS (gL.set h' hok hL'))
theorem g_iadd (X : gX V Z own cc nL R) {x y : Int32} (d : decode cc pc = .ok (.iadd, 1)) (k : G V Z nL cs ws (pc + 1) L (.int (x + y) :: st)) : G V Z nL cs ws pc L (.int y :: .int x :: st) := fun H locs ls hP hD hS hL => lv_iadd X.1 X.2.1 d (k H locs ls hP hD hS hL)
theorem g_isub (X : gX V Z own cc nL R) {x y : Int32} (d : decode cc pc = .ok (.isub, 1)) (k : G V Z nL cs ws (pc + 1) L (.int (x - y) :: st)) : G V Z nL cs ws pc L (.int y :: .int x :: st) := fun H locs ls hP hD hS hL => lv_isub X.1 X.2.1 d (k H locs ls hP hD hS hL)
theorem g_imul (X : gX V Z own cc nL R) {x y : Int32} (d : decode cc pc = .ok (.imul, 1)) (k : G V Z nL cs ws (pc + 1) L (.int (x * y) :: st)) : G V Z nL cs ws pc L (.int y :: .int x :: st) := fun H locs ls hP hD hS hL => lv_imul X.1 X.2.1 d (k H locs ls hP hD hS hL)
theorem g_iand (X : gX V Z own cc nL R) {x y : Int32} (d : decode cc pc = .ok (.iand, 1)) (k : G V Z nL cs ws (pc + 1) L (.int (x &&& y) :: st)) : G V Z nL cs ws pc L (.int y :: .int x :: st) := fun H locs ls hP hD hS hL => lv_iand X.1 X.2.1 d (k H locs ls hP hD hS hL)
theorem g_ior (X : gX V Z own cc nL R) {x y : Int32} (d : decode cc pc = .ok (.ior, 1)) (k : G V Z nL cs ws (pc + 1) L (.int (x ||| y) :: st)) : G V Z nL cs ws pc L (.int y :: .int x :: st) := fun H locs ls hP hD hS hL => lv_ior X.1 X.2.1 d (k H locs ls hP hD hS hL)
theorem g_ishl (X : gX V Z own cc nL R) {x y : Int32} (d : decode cc pc = .ok (.ishl, 1)) (k : G V Z nL cs ws (pc + 1) L (.int (x <<< (y &&& 31)) :: st)) : G V Z nL cs ws pc L (.int y :: .int x :: st) := fun H locs ls hP hD hS hL => lv_ishl X.1 X.2.1 d (k H locs ls hP hD hS hL)
theorem g_ishr (X : gX V Z own cc nL R) {x y : Int32} (d : decode cc pc = .ok (.ishr, 1)) (k : G V Z nL cs ws (pc + 1) L (.int (x >>> (y &&& 31)) :: st)) : G V Z nL cs ws pc L (.int y :: .int x :: st) := fun H locs ls hP hD hS hL => lv_ishr X.1 X.2.1 d (k H locs ls hP hD hS hL)
theorem g_ineg (X : gX V Z own cc nL R) {x : Int32} (d : decode cc pc = .ok (.ineg, 1)) (k : G V Z nL cs ws (pc + 1) L (.int (-x) :: st)) : G V Z nL cs ws pc L (.int x :: st) := fun H locs ls hP hD hS hL => lv_ineg X.1 X.2.1 d (k H locs ls hP hD hS hL)
theorem g_idiv (X : gX V Z own cc nL R) {x y : Int32} (d : decode cc pc = .ok (.idiv, 1)) (hne : ¬ y = 0) (k : G V Z nL cs ws (pc + 1) L (.int (x / y) :: st)) : G V Z nL cs ws pc L (.int y :: .int x :: st) := fun H locs ls hP hD hS hL => lv_idiv X.1 X.2.1 d hne (k H locs ls hP hD hS hL)
theorem g_irem (X : gX V Z own cc nL R) {x y : Int32} (d : decode cc pc = .ok (.irem, 1)) (hne : ¬ y = 0) (k : G V Z nL cs ws (pc + 1) L (.int (x - x / y * y) :: st)) : G V Z nL cs ws pc L (.int y :: .int x :: st) := fun H locs ls hP hD hS hL => lv_irem X.1 X.2.1 d hne (k H locs ls hP hD hS hL)
theorem g_dup (X : gX V Z own cc nL R) {v : Value} (d : decode cc pc = .ok (.dup, 1)) (hv : v.category = 1) (k : G V Z nL cs ws (pc + 1) L (v :: v :: st)) : G V Z nL cs ws pc L (v :: st) := fun H locs ls hP hD hS hL => lv_dup X.1 X.2.1 d hv (k H locs ls hP hD hS hL)
theorem g_dup2 (X : gX V Z own cc nL R) {v w : Value} (d : decode cc pc = .ok (.dup2, 1)) (hv : v.category = 1) (hw : w.category = 1) (k : G V Z nL cs ws (pc + 1) L (v :: w :: v :: w :: st)) : G V Z nL cs ws pc L (v :: w :: st) := fun H locs ls hP hD hS hL => lv_dup2_11 X.1 X.2.1 d hv hw (k H locs ls hP hD hS hL)
theorem g_pop (X : gX V Z own cc nL R) {v : Value} (d : decode cc pc = .ok (.pop, 1)) (hv : v.category = 1) (k : G V Z nL cs ws (pc + 1) L st) : G V Z nL cs ws pc L (v :: st) := fun H locs ls hP hD hS hL => lv_pop X.1 X.2.1 d hv (k H locs ls hP hD hS hL)
theorem g_goto (X : gX V Z own cc nL R) {off : Int} (tgt : Nat) (d : decode cc pc = .ok (.goto off, 3)) (ht : (pc : Int) + off = (tgt : Int)) (k : G V Z nL cs ws tgt L st) : G V Z nL cs ws pc L st := fun H locs ls hP hD hS hL => lv_goto X.1 X.2.1 d ht (k H locs ls hP hD hS hL)
theorem g_icmp_eq (X : gX V Z own cc nL R) {x y : Int32} {off : Int} (tgt : Nat) (d : decode cc pc = .ok (.if_icmp .eq off, 3)) (ht : (pc : Int) + off = (tgt : Int)) (kt : x = y → G V Z nL cs ws tgt L st) (kf : ¬ x = y → G V Z nL cs ws (pc + 3) L st) : G V Z nL cs ws pc L (.int y :: .int x :: st) := fun H locs ls hP hD hS hL => lv_icmp_eq X.1 X.2.1 d ht (fun h => kt h H locs ls hP hD hS hL) (fun h => kf h H locs ls hP hD hS hL)
theorem g_icmp_ne (X : gX V Z own cc nL R) {x y : Int32} {off : Int} (tgt : Nat) (d : decode cc pc = .ok (.if_icmp .ne off, 3)) (ht : (pc : Int) + off = (tgt : Int)) (kt : ¬ x = y → G V Z nL cs ws tgt L st) (kf : x = y → G V Z nL cs ws (pc + 3) L st) : G V Z nL cs ws pc L (.int y :: .int x :: st) := fun H locs ls hP hD hS hL => lv_icmp_ne X.1 X.2.1 d ht (fun h => kt h H locs ls hP hD hS hL) (fun h => kf h H locs ls hP hD hS hL)
theorem g_icmp_lt (X : gX V Z own cc nL R) {x y : Int32} {off : Int} (tgt : Nat) (d : decode cc pc = .ok (.if_icmp .lt off, 3)) (ht : (pc : Int) + off = (tgt : Int)) (kt : x < y → G V Z nL cs ws tgt L st) (kf : ¬ x < y → G V Z nL cs ws (pc + 3) L st) : G V Z nL cs ws pc L (.int y :: .int x :: st) := fun H locs ls hP hD hS hL => lv_icmp_lt X.1 X.2.1 d ht (fun h => kt h H locs ls hP hD hS hL) (fun h => kf h H locs ls hP hD hS hL)
theorem g_icmp_ge (X : gX V Z own cc nL R) {x y : Int32} {off : Int} (tgt : Nat) (d : decode cc pc = .ok (.if_icmp .ge off, 3)) (ht : (pc : Int) + off = (tgt : Int)) (kt : y ≤ x → G V Z nL cs ws tgt L st) (kf : ¬ y ≤ x → G V Z nL cs ws (pc + 3) L st) : G V Z nL cs ws pc L (.int y :: .int x :: st) := fun H locs ls hP hD hS hL => lv_icmp_ge X.1 X.2.1 d ht (fun h => kt h H locs ls hP hD hS hL) (fun h => kf h H locs ls hP hD hS hL)
theorem g_icmp_gt (X : gX V Z own cc nL R) {x y : Int32} {off : Int} (tgt : Nat) (d : decode cc pc = .ok (.if_icmp .gt off, 3)) (ht : (pc : Int) + off = (tgt : Int)) (kt : y < x → G V Z nL cs ws tgt L st) (kf : ¬ y < x → G V Z nL cs ws (pc + 3) L st) : G V Z nL cs ws pc L (.int y :: .int x :: st) := fun H locs ls hP hD hS hL => lv_icmp_gt X.1 X.2.1 d ht (fun h => kt h H locs ls hP hD hS hL) (fun h => kf h H locs ls hP hD hS hL)
theorem g_icmp_le (X : gX V Z own cc nL R) {x y : Int32} {off : Int} (tgt : Nat) (d : decode cc pc = .ok (.if_icmp .le off, 3)) (ht : (pc : Int) + off = (tgt : Int)) (kt : x ≤ y → G V Z nL cs ws tgt L st) (kf : ¬ x ≤ y → G V Z nL cs ws (pc + 3) L st) : G V Z nL cs ws pc L (.int y :: .int x :: st) := fun H locs ls hP hD hS hL => lv_icmp_le X.1 X.2.1 d ht (fun h => kt h H locs ls hP hD hS hL) (fun h => kf h H locs ls hP hD hS hL)
theorem g_if_eq (X : gX V Z own cc nL R) {x : Int32} {off : Int} (tgt : Nat) (d : decode cc pc = .ok (.ifCond .eq off, 3)) (ht : (pc : Int) + off = (tgt : Int)) (kt : x = 0 → G V Z nL cs ws tgt L st) (kf : ¬ x = 0 → G V Z nL cs ws (pc + 3) L st) : G V Z nL cs ws pc L (.int x :: st) := fun H locs ls hP hD hS hL => lv_if_eq X.1 X.2.1 d ht (fun h => kt h H locs ls hP hD hS hL) (fun h => kf h H locs ls hP hD hS hL)
theorem g_if_ne (X : gX V Z own cc nL R) {x : Int32} {off : Int} (tgt : Nat) (d : decode cc pc = .ok (.ifCond .ne off, 3)) (ht : (pc : Int) + off = (tgt : Int)) (kt : ¬ x = 0 → G V Z nL cs ws tgt L st) (kf : x = 0 → G V Z nL cs ws (pc + 3) L st) : G V Z nL cs ws pc L (.int x :: st) := fun H locs ls hP hD hS hL => lv_if_ne X.1 X.2.1 d ht (fun h => kt h H locs ls hP hD hS hL) (fun h => kf h H locs ls hP hD hS hL)
theorem g_if_lt (X : gX V Z own cc nL R) {x : Int32} {off : Int} (tgt : Nat) (d : decode cc pc = .ok (.ifCond .lt off, 3)) (ht : (pc : Int) + off = (tgt : Int)) (kt : x < 0 → G V Z nL cs ws tgt L st) (kf : ¬ x < 0 → G V Z nL cs ws (pc + 3) L st) : G V Z nL cs ws pc L (.int x :: st) := fun H locs ls hP hD hS hL => lv_if_lt X.1 X.2.1 d ht (fun h => kt h H locs ls hP hD hS hL) (fun h => kf h H locs ls hP hD hS hL)
theorem g_if_ge (X : gX V Z own cc nL R) {x : Int32} {off : Int} (tgt : Nat) (d : decode cc pc = .ok (.ifCond .ge off, 3)) (ht : (pc : Int) + off = (tgt : Int)) (kt : 0 ≤ x → G V Z nL cs ws tgt L st) (kf : ¬ 0 ≤ x → G V Z nL cs ws (pc + 3) L st) : G V Z nL cs ws pc L (.int x :: st) := fun H locs ls hP hD hS hL => lv_if_ge X.1 X.2.1 d ht (fun h => kt h H locs ls hP hD hS hL) (fun h => kf h H locs ls hP hD hS hL)
theorem g_if_gt (X : gX V Z own cc nL R) {x : Int32} {off : Int} (tgt : Nat) (d : decode cc pc = .ok (.ifCond .gt off, 3)) (ht : (pc : Int) + off = (tgt : Int)) (kt : 0 < x → G V Z nL cs ws tgt L st) (kf : ¬ 0 < x → G V Z nL cs ws (pc + 3) L st) : G V Z nL cs ws pc L (.int x :: st) := fun H locs ls hP hD hS hL => lv_if_gt X.1 X.2.1 d ht (fun h => kt h H locs ls hP hD hS hL) (fun h => kf h H locs ls hP hD hS hL)
theorem g_if_le (X : gX V Z own cc nL R) {x : Int32} {off : Int} (tgt : Nat) (d : decode cc pc = .ok (.ifCond .le off, 3)) (ht : (pc : Int) + off = (tgt : Int)) (kt : x ≤ 0 → G V Z nL cs ws tgt L st) (kf : ¬ x ≤ 0 → G V Z nL cs ws (pc + 3) L st) : G V Z nL cs ws pc L (.int x :: st) := fun H locs ls hP hD hS hL => lv_if_le X.1 X.2.1 d ht (fun h => kt h H locs ls hP hD hS hL) (fun h => kf h H locs ls hP hD hS hL)
theorem g_ifnull (X : gX V Z own cc nL R) {x : Nat} {off : Int} (d : decode cc pc = .ok (.ifnull off, 3)) (k : G V Z nL cs ws (pc + 3) L st) : G V Z nL cs ws pc L (.ref x :: st) := fun H locs ls hP hD hS hL => lv_ifnull X.1 X.2.1 d (k H locs ls hP hD hS hL)
theorem g_topi {x : Int32} (k : ∀ y : Int32, y = x → G V Z nL cs ws pc L (.int y :: st)) : G V Z nL cs ws pc L (.int x :: st) := k x rfl
-- fields and arrays
theorem g_get (X : gX V Z own cc nL R) {ref C : String} {T : u_T} {N ci idx a : Nat} (hin : ∀ w ∈ u_ws C T N, w ∈ lw_tbl) (q0 : Nat) {fs : List Value} (he : ws[q0]? = some (a, .inr (ci, fs))) (hc : classes[ci]? = some (C, T, N)) (j : Nat) (hj : j < N) (hl : Cond.fieldLink own idx ref (T j).2.1 (T j).2.2.1 ∈ lw_tbl) (hr : (T j).1 = ref) {v : Value} (hv : fs[j]? = some v) (hg : (u_ws C T N).all goodWord = true) (d : decode cc pc = .ok (.getfield idx, 3)) (k : G V Z nL cs ws (pc + 3) L (v :: st)) : G V Z nL cs ws pc L (.ref a :: st) := fun H locs ls hP hD hS hL => va_get X.1 X.2.1 X.2.2.2.2.1 (fun w hw => tG_in (hin w hw) (List.all_eq_true.mp hg w hw)) X.2.2.2.1 X.2.2.2.2.2.2.1 hP q0 he hc j hj (X.w hl) (fun x h => by rw [← hr]; exact h) hv d (k H locs ls hP hD hS hL)
theorem g_getN (X : gX V Z own cc nL R) {ref C host : String} {T : u_T} {N ci idx a : Nat} (hin : ∀ w ∈ u_ws C T N, w ∈ lw_tbl) (q0 : Nat) {fs : List Value} (he : ws[q0]? = some (a, .inr (ci, fs))) (hc : classes[ci]? = some (C, T, N)) (j : Nat) (hj : j < N) (hl : (own, idx, ref, (T j).2.1, (T j).2.2.1, host) ∈ nFl) (hr : (T j).1 = ref) {v : Value} (hv : fs[j]? = some v) (hg : (u_ws C T N).all goodWord = true) (d : decode cc pc = .ok (.getfield idx, 3)) (k : G V Z nL cs ws (pc + 3) L (v :: st)) : G V Z nL cs ws pc L (.ref a :: st) := fun H locs ls hP hD hS hL => va_getN X.1 X.2.1 X.2.2.2.2.1 (fun w hw => tG_in (hin w hw) (List.all_eq_true.mp hg w hw)) X.2.2.2.1 X.2.2.2.2.2.2.1 hP q0 he hc j hj ((X.2.2.2.2.2.1.1 _ hl).use rfl) (fun x h => by rw [← hr]; exact h) hv d (k H locs ls hP hD hS hL)
theorem g_put (X : gX V Z own cc nL R) {ref C : String} {T : u_T} {N ci idx a : Nat} (hin : ∀ w ∈ u_ws C T N, w ∈ lw_tbl) (ty0 : Nat → FieldType) (hty : ∀ k, k < N → parseFieldDescriptor (T k).2.2.1 = some (ty0 k)) (hnm : ∀ a, a < N → ∀ b, b < N → a ≠ b → (T a).2.1 ≠ (T b).2.1) (q0 : Nat) {fs : List Value} (he : ws[q0]? = some (a, .inr (ci, fs))) (hc : classes[ci]? = some (C, T, N)) (j : Nat) (hj : j < N) (hl : Cond.fieldLink own idx ref (T j).2.1 (T j).2.2.1 ∈ lw_tbl) (hr : (T j).1 = ref) (hfin : (T j).2.2.2 = false) {v : Value} (hn : narrow (ty0 j) v = v) (hfit : fits (ty0 j) v = true) (hfl : j < fs.length) (hg : (u_ws C T N).all goodWord = true) {ws' : va_W} (hw : ws.set q0 (a, .inr (ci, fs.set j v)) = ws') (d : decode cc pc = .ok (.putfield idx, 3)) (k : G V Z nL cs ws' (pc + 3) L st) : G V Z nL cs ws pc L (v :: .ref a :: st) := fun H locs ls hP hD hS hL => va_put X.1 X.2.1 X.2.2.2.2.1 (fun w hw => tG_in (hin w hw) (List.all_eq_true.mp hg w hw)) ty0 hty hnm X.2.2.2.1 X.2.2.2.2.2.2.1 hP hD hS q0 he hc j hj (X.w hl) (fun x h => by rw [← hr]; exact h) hfin (hty j hj) hn hfit hfl d (fun H1 locs1 hP1 hD1 hS1 => k H1 locs1 ls (by rw [← hw]; exact hP1) (by rw [← hw]; exact hD1) hS1 hL)
theorem g_putN (X : gX V Z own cc nL R) {ref C host : String} {T : u_T} {N ci idx a : Nat} (hin : ∀ w ∈ u_ws C T N, w ∈ lw_tbl) (ty0 : Nat → FieldType) (hty : ∀ k, k < N → parseFieldDescriptor (T k).2.2.1 = some (ty0 k)) (hnm : ∀ a, a < N → ∀ b, b < N → a ≠ b → (T a).2.1 ≠ (T b).2.1) (q0 : Nat) {fs : List Value} (he : ws[q0]? = some (a, .inr (ci, fs))) (hc : classes[ci]? = some (C, T, N)) (j : Nat) (hj : j < N) (hl : (own, idx, ref, (T j).2.1, (T j).2.2.1, host) ∈ nFl) (hr : (T j).1 = ref) (hfin : (T j).2.2.2 = false) {v : Value} (hn : narrow (ty0 j) v = v) (hfit : fits (ty0 j) v = true) (hfl : j < fs.length) (hg : (u_ws C T N).all goodWord = true) {ws' : va_W} (hw : ws.set q0 (a, .inr (ci, fs.set j v)) = ws') (d : decode cc pc = .ok (.putfield idx, 3)) (k : G V Z nL cs ws' (pc + 3) L st) : G V Z nL cs ws pc L (v :: .ref a :: st) := fun H locs ls hP hD hS hL => va_putN X.1 X.2.1 X.2.2.2.2.1 (fun w hw => tG_in (hin w hw) (List.all_eq_true.mp hg w hw)) ty0 hty hnm X.2.2.2.1 X.2.2.2.2.2.2.1 hP hD hS q0 he hc j hj ((X.2.2.2.2.2.1.1 _ hl).use rfl) (fun x h => by rw [← hr]; exact h) hfin (hty j hj) hn hfit hfl d (fun H1 locs1 hP1 hD1 hS1 => k H1 locs1 ls (by rw [← hw]; exact hP1) (by rw [← hw]; exact hD1) hS1 hL)
theorem g_iald (X : gX V Z own cc nL R) (q0 : Nat) {a n : Nat} {f : Nat → Int32} {i : Int32} (he : ws[q0]? = some (a, .inl (V.2.2.1, n, .inl f))) (hin : vp_in i n) (d : decode cc pc = .ok (.iaload, 1)) (k : G V Z nL cs ws (pc + 1) L (.int (f i.toNatClampNeg) :: st)) : G V Z nL cs ws pc L (.int i :: .ref a :: st) := fun H locs ls hP hD hS hL => va_iald X.1 X.2.1 X.2.2.2.2.2.2.1 hP q0 0 he rfl hin d (k H locs ls hP hD hS hL)
theorem g_iast (X : gX V Z own cc nL R) (q0 : Nat) {a n : Nat} {f : Nat → Int32} {i x : Int32} (he : ws[q0]? = some (a, .inl (V.2.2.1, n, .inl f))) (hin : vp_in i n) {ws' : va_W} (hw : ws.set q0 (a, .inl (V.2.2.1, n, .inl (upd f i.toNatClampNeg x))) = ws') (d : decode cc pc = .ok (.iastore, 1)) (k : G V Z nL cs ws' (pc + 1) L st) : G V Z nL cs ws pc L (.int x :: .int i :: .ref a :: st) := fun H locs ls hP hD hS hL => va_iast X.1 X.2.1 X.2.2.2.2.2.2.1 hP hD hS q0 0 he rfl hin d (fun H1 locs1 hP1 hD1 hS1 => k H1 locs1 ls (by rw [← hw]; exact hP1) (by rw [← hw]; exact hD1) hS1 hL)
theorem g_alen (X : gX V Z own cc nL R) (q0 : Nat) {a n : Nat} {f : Nat → Int32} (v : Int32) (he : ws[q0]? = some (a, .inl (V.2.2.1, n, .inl f))) (hv : Int32.ofNat n = v) (d : decode cc pc = .ok (.arraylength, 1)) (k : G V Z nL cs ws (pc + 1) L (.int v :: st)) : G V Z nL cs ws pc L (.ref a :: st) := fun H locs ls hP hD hS hL => va_alen X.1 X.2.1 X.2.2.2.2.2.2.1 hP q0 0 he rfl (by exact hv) d (k H locs ls hP hD hS hL)
theorem g_alenq (X : gX V Z own cc nL R) (q0 : Nat) {a n : Nat} {f : Nat → Option Nat} (v : Int32) (he : ws[q0]? = some (a, .inl (V.2.2.2, n, .inr (.inr (.inr (.inr f)))))) (hv : Int32.ofNat n = v) (d : decode cc pc = .ok (.arraylength, 1)) (k : G V Z nL cs ws (pc + 1) L (.int v :: st)) : G V Z nL cs ws pc L (.ref a :: st) := fun H locs ls hP hD hS hL => va_alen X.1 X.2.1 X.2.2.2.2.2.2.1 hP q0 1 he rfl (by exact hv) d (k H locs ls hP hD hS hL)
theorem g_aald (X : gX V Z own cc nL R) (q0 : Nat) {a n : Nat} {f : Nat → Option Nat} {i : Int32} (v : Value) (he : ws[q0]? = some (a, .inl (V.2.2.2, n, .inr (.inr (.inr (.inr f)))))) (hin : vp_in i n) (hv : va_rf (f i.toNatClampNeg) = v) (d : decode cc pc = .ok (.aaload, 1)) (k : G V Z nL cs ws (pc + 1) L (v :: st)) : G V Z nL cs ws pc L (.int i :: .ref a :: st) := by
  subst hv
  exact fun H locs ls hP hD hS hL => va_aldq X.1 X.2.1 X.2.2.2.2.2.2.1 hP q0 1 he rfl hin d (k H locs ls hP hD hS hL)
end GR
