/-! THE PICTURE OF THE WORLD: cells by their numbers (a cell's address is the first one plus its number), their shapes in a list, their whole numbers in two functions -/
/-- a cell's shape: a row (kind: 0 int, 1 byte, 2 boolean, 3 long; how many), or an object (its place in vwCl; of each field: an int, a long, or what it refers to) -/
abbrev w_SC : Type := (Nat × Nat) ⊕ (Nat × List (Nat ⊕ Option Nat))
/-- every number by a natural one, as nI and lN give it (-1 is 4294967295) -/
abbrev w_I : Type := Nat → Nat → Nat
abbrev w_L : Type := Nat → Nat → Nat
/-- what stays in a whole run: the first address; the classes' numbers; the rows' classes; the script; the words' addresses; a place that is free -/
abbrev w_O : Type := Nat × va_G × (Nat → ClassId) × (Nat × Nat × (Nat → Int32)) × ((Nat → Nat) × (Nat → Nat)) × Nat
def w_A (Ω : w_O) : Nat → Prop := fun q => Ω.1 ≤ q
def w_tys (cA : Nat → ClassId) : List (ClassId × FieldType) := [(cA 0, .int), (cA 1, .byte), (cA 2, .boolean), (cA 3, .long)]
def w_fv (n0 : Nat) (Ir : Nat → Nat) (Lr : Nat → Nat) (k : Nat) : (Nat ⊕ Option Nat) → Value
  | .inl 0 => .int (nI (Ir k))
  | .inl _ => .long (lN (Lr k))
  | .inr none => .null
  | .inr (some r) => .ref (n0 + r)
def w_ac (Ir : Nat → Nat) (Lr : Nat → Nat) : Nat → ((Nat → Int32) ⊕ (Nat → Int64) ⊕ (Nat → UInt32) ⊕ (Nat → UInt64) ⊕ (Nat → Option Nat))
  | 3 => .inr (.inl (fun j => lN (Lr j)))
  | _ => .inl (fun j => nI (Ir j))
def w_en (n0 : Nat) (cA : Nat → ClassId) (Ir : Nat → Nat) (Lr : Nat → Nat) : w_SC → va_E
  | .inl q => .inl (cA q.1, q.2, w_ac Ir Lr q.1)
  | .inr o => .inr (o.1, o.2.mapIdx (fun k kd => w_fv n0 Ir Lr k kd))
def w_ws (Ω : w_O) (S : List w_SC) (I : w_I) (L : w_L) : va_W := S.mapIdx (fun i sc => (Ω.1 + i, w_en Ω.1 Ω.2.2.1 (I i) (L i) sc))
def w_put (I : Nat → Nat → Nat) (a j x : Nat) : Nat → Nat → Nat := fun i => if i = a then (fun k => if k = j then x else I i k) else I i
def w_row (I : Nat → Nat → Nat) (a : Nat) (f : Nat → Nat) : Nat → Nat → Nat := fun i => if i = a then f else I i
theorem w_ws_get (Ω : w_O) (S : List w_SC) (I : w_I) (L : w_L) {i : Nat} {sc : w_SC} (h : S[i]? = some sc) : (w_ws Ω S I L)[i]? = some (Ω.1 + i, w_en Ω.1 Ω.2.2.1 (I i) (L i) sc) := by
  simp [w_ws, List.getElem?_mapIdx, h]
/-- a cell's contents change: so does its place in the list -/
theorem w_ws_set (Ω : w_O) {S S' : List w_SC} {I I' : w_I} {L L' : w_L} {a : Nat} {sc sc' : w_SC} (h : S[a]? = some sc) (hS : S' = S.set a sc') (hI : ∀ i, i ≠ a → I' i = I i) (hL : ∀ i, i ≠ a → L' i = L i) :
    w_ws Ω S' I' L' = (w_ws Ω S I L).set a (Ω.1 + a, w_en Ω.1 Ω.2.2.1 (I' a) (L' a) sc') := by
  subst hS
  have hlt : a < S.length := (List.getElem?_eq_some_iff.mp h).1
  refine List.ext_getElem? fun i => ?_
  rw [List.getElem?_set]
  by_cases hia : a = i
  · subst hia
    simp [w_ws, List.getElem?_mapIdx, List.getElem?_set, hlt]
  · have hne : i ≠ a := fun q => hia q.symm
    simp [w_ws, List.getElem?_mapIdx, List.getElem?_set, hia, hI i hne, hL i hne]
theorem w_ws_app (Ω : w_O) (S : List w_SC) (I : w_I) (L : w_L) (sc : w_SC) : w_ws Ω (S ++ [sc]) I L = w_ws Ω S I L ++ [(Ω.1 + S.length, w_en Ω.1 Ω.2.2.1 (I S.length) (L S.length) sc)] := by
  simp [w_ws, List.mapIdx_append]
theorem w_set_same {α : Type} {S : List α} {a : Nat} {sc : α} (h : S[a]? = some sc) : S = S.set a sc := by
  refine List.ext_getElem? fun i => ?_
  rw [List.getElem?_set]
  by_cases hia : a = i
  · subst hia
    obtain ⟨h1, h2⟩ := List.getElem?_eq_some_iff.mp h
    simp [h1, h2]
  · simp [hia]
theorem w_put_ne (I : Nat → Nat → Nat) {a j x : Nat} : ∀ i, i ≠ a → w_put I a j x i = I i := fun i h => by simp [w_put, h]
theorem w_put_at (I : Nat → Nat → Nat) {a j x : Nat} : w_put I a j x a = fun k => if k = j then x else I a k := by simp [w_put]
theorem w_row_ne (I : Nat → Nat → Nat) {a : Nat} {f : Nat → Nat} : ∀ i, i ≠ a → w_row I a f i = I i := fun i h => by simp [w_row, h]
theorem w_row_at (I : Nat → Nat → Nat) {a : Nat} {f : Nat → Nat} : w_row I a f a = f := by simp [w_row]
/-- the words of a text: lengths and bytes of people, price, meet, promise, day, at, on -/
def w_txt : List (List Int32) := [[112, 101, 111, 112, 108, 101], [112, 114, 105, 99, 101], [109, 101, 101, 116], [112, 114, 111, 109, 105, 115, 101], [100, 97, 121], [97, 116], [111, 110]]
def w_str (Ω : w_O) (A : Nat → Prop) (U : State) (H : Heap) : Prop := ∀ i : Nat, i < 7 → va_O "java/lang/String" (Ω.2.2.2.2.1.1 i) A U H ∧ va_OF "java/lang/String" "coder" "B" (.int 0) (Ω.2.2.2.2.1.1 i) A U H ∧
  va_OF "java/lang/String" "value" "[B" (.ref (Ω.2.2.2.2.1.2 i)) (Ω.2.2.2.2.1.1 i) A U H ∧ va_T .byte (Ω.2.2.2.2.1.2 i) ((w_txt.getD i []).length) (fun j => .int ((w_txt.getD i []).getD j 0)) A U H
/-- literals that are words of a text: class, entry, text, which -/
def w_lits : List (String × Nat × String × Nat) := [("DuskTown$Reader", 45, "people", 0), ("DuskTown$Reader", 58, "price", 1), ("DuskTown$Reader", 63, "meet", 2), ("DuskTown$Reader", 122, "at", 5), ("DuskTown$Reader", 71, "promise", 3), ("DuskTown$Reader", 120, "day", 4), ("DuskTown$Reader", 124, "on", 6), ("DuskTownModel", 216, "people", 0), ("DuskTownModel", 218, "price", 1), ("DuskTownModel", 219, "meet", 2), ("DuskTownModel", 202, "at", 5), ("DuskTownModel", 224, "promise", 3), ("DuskTownModel", 210, "day", 4), ("DuskTownModel", 214, "on", 6)]
/-- literals that are messages: class, entry, text -/
def w_msgs : List (String × Nat × String) := [("DuskTown", 83, "the tape has not so many bytes"), ("DuskTown", 142, "no such count"), ("DuskTown", 267, "no such person"), ("DuskTown", 269, "no such meeting"), ("DuskTown", 163, "no such thing of a meeting"), ("DuskTown", 271, "no such promise"), ("DuskTown", 192, "no such thing of a promise"), ("DuskTown", 198, "not so many days go by at once"), ("DuskTown", 273, "the promise does not stand"), ("DuskTown", 215, "no such sum"), ("DuskTown", 279, "not so many days"), ("DuskTown", 285, "silent people that there are not"), ("DuskTown", 236, "no row is kept"), ("DuskTown", 275, "no such day"), ("DuskTown", 277, "no such hour")]
/-- words that the tables keep, but not under the common law -/
def w_decl : List MethodName := [⟨"java/lang/RuntimeException", "<init>", "(Ljava/lang/String;)V"⟩, ⟨"java/lang/Exception", "<init>", "(Ljava/lang/String;)V"⟩, ⟨"java/lang/Throwable", "<init>", "(Ljava/lang/String;)V"⟩]
def w_cast : List (String × String) := [("java/lang/IllegalArgumentException", "java/lang/IllegalArgumentException"), ("java/util/NoSuchElementException", "java/util/NoSuchElementException")]
def w_nest : List (String × Nat × MethodName × String) := [("DuskTown", 35, yX5_init, "DuskTown"), ("DuskTown$Image", 9, yX5_init, "DuskTown")]
def w_ng (U : State) : Prop := (∀ x ∈ w_decl, va_Nw (.declares x) U) ∧ (∀ q ∈ w_cast, va_Nw (.castable q.1 q.2) U) ∧ (∀ q ∈ w_nest, va_Nw (.methodLinkNest q.1 q.2.1 q.2.2.1 q.2.2.2) U) ∧ va_Nc "java/lang/IllegalArgumentException" "java/util/NoSuchElementException" U
theorem w_ng.warm {s U : State} (hW : s.WarmedH U.vm) (h : w_ng s) : w_ng U := ⟨fun x hx => (h.1 x hx).warmD hW, fun x hx => (h.2.1 x hx).warmC hW, fun x hx => (h.2.2.1 x hx).warmM hW, va_Nc.moved hW.alike h.2.2.2⟩
def w_cst (Ω : w_O) (U : State) : Prop := Ω.1 ≤ U.heap.size ∧ (va_X Ω.2.2.2.1.1 Ω.2.2.2.1.2.1 Ω.2.2.2.1.2.2 U U.heap ∧ Ω.2.2.2.1.1 < Ω.1) ∧ w_str Ω (w_A Ω) U U.heap ∧
  (∀ q ∈ w_lits, vk_R q.1 q.2.1 q.2.2.1 (Ω.2.2.2.2.1.1 q.2.2.2) U) ∧ (∀ q ∈ w_msgs, ∃ a, vk_R q.1 q.2.1 q.2.2 a U) ∧
  (True ∧ True) ∧
  (vx_Zq Bundle.tN "UNASSIGNED_STACK" Bundle.steD (w_A Ω) U U.heap ∧ vx_Zq Bundle.tN "SUPPRESSED_SENTINEL" Bundle.listD (w_A Ω) U U.heap) ∧
  (va_Z "java/lang/String" "COMPACT_STRINGS" "Z" (.int 1) (w_A Ω) U U.heap ∧ va_Zq "jdk/internal/util/Preconditions" "SIOOBE_FORMATTER" "Ljava/util/function/BiFunction;" (w_A Ω) U U.heap) ∧ w_ng U
def w_Rel (Ω : w_O) (S : List w_SC) (I : w_I) (L : w_L) (U : State) (H : Heap) : Prop := va_K Ω.2.1 vwCl (w_tys Ω.2.2.1) U ∧ va_P Ω.2.1 vwCl (w_ws Ω S I L) H ∧ va_D (w_A Ω) (w_ws Ω S I L)
theorem w_Rel.moved {Ω : w_O} {S : List w_SC} {I : w_I} {L : w_L} {u U : State} {H : Heap} (hvm : u.vm.Alike U.vm) (h : w_Rel Ω S I L u H) : w_Rel Ω S I L U H := ⟨h.1.moved hvm, h.2⟩
/-- what stays is there where a callee begins -/
theorem w_cst.next {Ω : w_O} {s U : State} {H : Heap} {locs : List Loc} (h : w_cst Ω s) (hS : va_S (w_A Ω) s.heap H locs) (hU : U.heap = H) (hW : s.WarmedH U.vm) : w_cst Ω U := by
  obtain ⟨h1, ⟨h2, h2'⟩, h3, h4, h5, ⟨h6, h6'⟩, ⟨h7, h7'⟩, h8, h9⟩ := h
  have hk : ∀ a : Nat, a < s.heap.size → ¬ w_A Ω a → H[a]? = s.heap[a]? := hS.2.1
  have hvm : s.vm.Alike U.vm := hW.alike
  unfold w_cst
  rw [hU]
  refine ⟨Nat.le_trans h1 hS.1, ⟨(h2.kept (hk _ (Nat.lt_of_lt_of_le h2' h1) (Nat.not_le.mpr h2'))).moved hvm, h2'⟩, fun i hi => ?_, fun q hq => (h4 q hq).warm hW, fun q hq => ?_, ⟨h6, h6'⟩, ⟨(h7.kept hk).moved hvm, (h7'.kept hk).moved hvm⟩, ⟨(h8.1.kept hk).moved hvm, va_Zq.moved hvm (h8.2.kept hk)⟩, h9.warm hW⟩
  · obtain ⟨a1, a2, a3, a4⟩ := h3 i hi
    exact ⟨(a1.kept hk).moved hvm, (a2.kept hk).moved hvm, (a3.kept hk).moved hvm, (a4.kept hk).moved hvm⟩
  · obtain ⟨a, ha⟩ := h5 q hq
    exact ⟨a, ha.warm hW⟩
/-- a method: its class, name, code, locals, what it returns -/
abbrev w_M : Type := String × MethodName × ByteArray × Nat × Option FieldType
/-- a walk's launch, room, end, and the heap's size at its start -/
abbrev w_E : Type := Launch × Room × (List Frame → Array Value → State → State → Prop) × Nat × List ExceptionTableEntry
/-- WHAT A WALK OWES AT A PLACE: k cells of n slots were made so far -/
def V (M : w_M) (E : w_E) (Ω : w_O) (k n : Nat) (S : List w_SC) (I : w_I) (L : w_L) (pc : Nat) (ls : List (Nat × Value)) (st : List Value) : Prop :=
  ∀ (p : Program) (e : Env) (s : State) (m : MethodId) (args : Array Value) (below : List Frame) (meth : Method) (c : Code) (H : Heap) (lr : Array Slot) (locs : List Loc),
    CallFix p m c M.2.2.1 M.2.2.2.1 s args w_tb M.1 → (meth.locks = false ∧ meth.sig.returnType = M.2.2.2.2 ∧ c.exceptionTable.toList = E.2.2.2.2 ∧ s.heap.size = E.2.2.2.1 ∧ E.1.stackTraces = false ∧ meth.name = M.2.1.name) → (k ≤ E.2.1.cells ∧ n ≤ E.2.1.slots) →
    w_cst Ω s → w_Rel Ω S I L s H → va_S (w_A Ω) s.heap H locs → lv_has lr M.2.2.2.1 ls →
    W p E.1 e E.2.1 s m args below meth c H locs k n (E.2.2.1 below args s) (F0 m pc lr st)
