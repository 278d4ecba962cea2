/-! ROWS OF V ON THE HEAP -/
/-- of a cell's field: its class's place, and the field's kind -/
def w_k (S : List w_SC) (a k : Nat) : Option (Nat × (Nat ⊕ Option Nat)) := match S[a]? with
  | some (.inr o) => (o.2[k]?).map (fun q => (o.1, q))
  | _ => none
theorem w_k_spec {S : List w_SC} {a k ci : Nat} {kd : Nat ⊕ Option Nat} (h : w_k S a k = some (ci, kd)) : ∃ ks, S[a]? = some (.inr (ci, ks)) ∧ ks[k]? = some kd := by
  unfold w_k at h
  split at h
  · rename_i o ho
    cases hq : o.2[k]? with
    | none => rw [hq] at h; cases h
    | some q =>
      rw [hq] at h
      simp only [Option.map_some, Option.some.injEq, Prod.mk.injEq] at h
      obtain ⟨h1, h2⟩ := h
      subst h1; subst h2
      exact ⟨o.2, ho, hq⟩
  · cases h
/-- an entry of a class's pool is a field of a class of ours -/
def w_FL (own : String) (idx ci k : Nat) : Prop := ∃ (C : String) (T : u_T) (N : Nat) (ty : Nat → FieldType), vwCl[ci]? = some (C, T, N) ∧ k < N ∧ (∀ w ∈ u_ws C T N, w ∈ w_tb) ∧ Cond.fieldLink own idx (T k).1 (T k).2.1 (T k).2.2.1 ∈ w_tb ∧ (∀ k, k < N → parseFieldDescriptor (T k).2.2.1 = some (ty k)) ∧ (∀ a, a < N → ∀ b, b < N → a ≠ b → (T a).2.1 ≠ (T b).2.1)
/-- what may be written there, and whether it is final -/
def w_FT (ci k : Nat) (ty : FieldType) (fin : Bool) : Prop := ∃ q : vw_C, vwCl[ci]? = some q ∧ parseFieldDescriptor (q.2.1 k).2.2.1 = some ty ∧ (q.2.1 k).2.2.2 = fin
theorem w_fs_get {n0 : Nat} {Ir : Nat → Nat} {Lr : Nat → Nat} {ks : List (Nat ⊕ Option Nat)} {k : Nat} {kd : Nat ⊕ Option Nat} (h : ks[k]? = some kd) : (ks.mapIdx (fun k kd => w_fv n0 Ir Lr k kd))[k]? = some (w_fv n0 Ir Lr k kd) := by
  simp [List.getElem?_mapIdx, h]
theorem w_fs_set {n0 : Nat} {Ir Ir' : Nat → Nat} {Lr Lr' : Nat → Nat} {ks : List (Nat ⊕ Option Nat)} {k : Nat} {kd : Nat ⊕ Option Nat} (h : k < ks.length) (h1 : ∀ j, j ≠ k → Ir' j = Ir j) (h2 : ∀ j, j ≠ k → Lr' j = Lr j) :
    ((ks.set k kd).mapIdx (fun k kd => w_fv n0 Ir' Lr' k kd)) = (ks.mapIdx (fun k kd => w_fv n0 Ir Lr k kd)).set k (w_fv n0 Ir' Lr' k kd) := by
  refine List.ext_getElem? fun i => ?_
  rw [List.getElem?_set, List.getElem?_mapIdx, List.getElem?_mapIdx, List.getElem?_set]
  by_cases hik : k = i
  · subst hik; simp [h]
  · have hne : i ≠ k := fun e => hik e.symm
    simp only [if_neg hik]
    cases ks[i]? with
    | none => rfl
    | some q =>
      rcases q with q | q
      · cases q with
        | zero => simp [w_fv, h1 i hne]
        | succ q => simp [w_fv, h2 i hne]
      · cases q <;> rfl
section
variable {M : w_M} {E : w_E} {Ω : w_O} {k n : Nat} {S : List w_SC} {I : w_I} {L : w_L} {ls : List (Nat × Value)} {st : List Value}
theorem V_get (pc : Nat) {a idx ci j : Nat} {kd : Nat ⊕ Option Nat} (F : w_FL M.1 idx ci j) (d : decode M.2.2.1 pc = .ok (.getfield idx, 3)) (hk : w_k S a j = some (ci, kd)) (h : V M E Ω k n S I L (pc + 3) ls (w_fv Ω.1 (I a) (L a) j kd :: st)) : V M E Ω k n S I L pc ls (.ref (Ω.1 + a) :: st) := by
  intro p e s m args below meth c H lr locs C hm hn hc hR hS hl
  obtain ⟨ks, h1, h2⟩ := w_k_spec hk
  obtain ⟨Cn, T, N, ty, f1, f2, f3, f4, f5, f6⟩ := F
  exact va_get C.1 C.2.1 C.2.2.2.2 f3 C.2.2.2.1 hR.1 hR.2.1 a (w_ws_get Ω S I L h1) f1 j f2 (C.2.2.2.2 _ f4) (fun _ q => q) (w_fs_get h2) d (h p e s m args below meth c H lr locs C hm hn hc hR hS hl)
theorem V_getI (pc : Nat) {a idx ci j : Nat} (F : w_FL M.1 idx ci j) (d : decode M.2.2.1 pc = .ok (.getfield idx, 3)) (hk : w_k S a j = some (ci, .inl 0)) (h : V M E Ω k n S I L (pc + 3) ls (.int (nI (I a j)) :: st)) : V M E Ω k n S I L pc ls (.ref (Ω.1 + a) :: st) := V_get pc F d hk h
theorem V_getL (pc : Nat) {a idx ci j : Nat} (F : w_FL M.1 idx ci j) (d : decode M.2.2.1 pc = .ok (.getfield idx, 3)) (hk : w_k S a j = some (ci, .inl 1)) (h : V M E Ω k n S I L (pc + 3) ls (.long (lN (L a j)) :: st)) : V M E Ω k n S I L pc ls (.ref (Ω.1 + a) :: st) := V_get pc F d hk h
theorem V_getR (pc : Nat) {a idx ci j r : Nat} (F : w_FL M.1 idx ci j) (d : decode M.2.2.1 pc = .ok (.getfield idx, 3)) (hk : w_k S a j = some (ci, .inr (some r))) (h : V M E Ω k n S I L (pc + 3) ls (.ref (Ω.1 + r) :: st)) : V M E Ω k n S I L pc ls (.ref (Ω.1 + a) :: st) := V_get pc F d hk h
/-- a field is written: its kind may change (a reference), or its number -/
theorem V_put (pc : Nat) {a idx ci j : Nat} {kd' : Nat ⊕ Option Nat} {ty : FieldType} {fin : Bool} {v : Value} {S' : List w_SC} {I' : w_I} {L' : w_L} {ks : List (Nat ⊕ Option Nat)} (F : w_FL M.1 idx ci j) (T : w_FT ci j ty fin) (d : decode M.2.2.1 pc = .ok (.putfield idx, 3))
    (h1 : S[a]? = some (.inr (ci, ks))) (h2 : j < ks.length) (hf : fin = true → M.2.1.name = "<init>" ∧ ∃ q : vw_C, vwCl[ci]? = some q ∧ (q.2.1 j).1 = M.1) (hnar : narrow ty v = v) (hfit : fits ty v = true) (hv : w_fv Ω.1 (I' a) (L' a) j kd' = v)
    (hS' : S' = S.set a (.inr (ci, ks.set j kd'))) (hI : ∀ i, i ≠ a → I' i = I i) (hL : ∀ i, i ≠ a → L' i = L i) (hI2 : ∀ i, i ≠ j → I' a i = I a i) (hL2 : ∀ i, i ≠ j → L' a i = L a i)
    (h : V M E Ω k n S' I' L' (pc + 3) ls st) : V M E Ω k n S I L pc ls (v :: .ref (Ω.1 + a) :: st) := by
  intro p e s m args below meth c H lr locs C hm hn hc hR hS hl
  obtain ⟨Cn, T1, N, ty1, f1, f2, f3, f4, f5, f6⟩ := F
  obtain ⟨q, t1, t2, t3⟩ := T
  cases f1.symm.trans t1
  have key : ∀ (H1 : Heap) (locs1 : List Loc), va_P Ω.2.1 vwCl ((w_ws Ω S I L).set a (Ω.1 + a, .inr (ci, (ks.mapIdx (fun k kd => w_fv Ω.1 (I a) (L a) k kd)).set j v))) H1 → va_D (w_A Ω) ((w_ws Ω S I L).set a (Ω.1 + a, .inr (ci, (ks.mapIdx (fun k kd => w_fv Ω.1 (I a) (L a) k kd)).set j v))) → va_S (w_A Ω) s.heap H1 locs1 → W p E.1 e E.2.1 s m args below meth c H1 locs1 k n (E.2.2.1 below args s) (F0 m (pc + 3) lr st) := by
    intro H1 locs1 g1 g2 g3
    have e1 : w_ws Ω S' I' L' = (w_ws Ω S I L).set a (Ω.1 + a, .inr (ci, (ks.mapIdx (fun k kd => w_fv Ω.1 (I a) (L a) k kd)).set j v)) := by
      rw [w_ws_set Ω h1 hS' hI hL]
      congr 2
      show (Sum.inr _ : va_E) = _
      rw [w_fs_set h2 hI2 hL2, hv]
    exact h p e s m args below meth c H1 lr locs1 C hm hn hc ⟨hR.1, by rw [e1]; exact g1, by rw [e1]; exact g2⟩ g3 hl
  cases fin with
  | false => exact va_put C.1 C.2.1 C.2.2.2.2 f3 ty1 f5 f6 C.2.2.2.1 hR.1 hR.2.1 hR.2.2 hS a (w_ws_get Ω S I L h1) f1 j f2 (C.2.2.2.2 _ f4) (fun _ q => q) t3 t2 hnar hfit (by simpa using h2) d key
  | true =>
    obtain ⟨g1, q2, g2, g3⟩ := hf rfl
    cases f1.symm.trans g2
    exact va_putF C.1 C.2.1 C.2.2.2.2 f3 ty1 f5 f6 C.2.2.2.1 hR.1 hR.2.1 hR.2.2 hS a (w_ws_get Ω S I L h1) f1 j f2 (C.2.2.2.2 _ f4) (fun _ q => q) t3 (hm.2.2.2.2.2.trans g1) g3 t2 hnar hfit (by simpa using h2) d key
theorem V_putI (pc : Nat) {a idx ci j v : Nat} (F : w_FL M.1 idx ci j) (T : w_FT ci j .int false) (d : decode M.2.2.1 pc = .ok (.putfield idx, 3)) (hk : w_k S a j = some (ci, .inl 0)) (h : V M E Ω k n S (w_put I a j v) L (pc + 3) ls st) : V M E Ω k n S I L pc ls (.int (nI v) :: .ref (Ω.1 + a) :: st) := by
  obtain ⟨ks, h1, h2⟩ := w_k_spec hk
  refine V_put (kd' := .inl 0) pc F T d h1 (List.getElem?_eq_some_iff.mp h2).1 (fun q => by cases q) (vp_nar_int (nI v)) rfl ?_ ?_ (w_put_ne I) (fun _ _ => rfl) ?_ (fun _ _ => rfl) h
  · rw [w_put_at]; simp [w_fv]
  · rw [← w_set_same h2]; exact w_set_same h1
  · intro i hi; rw [w_put_at]; simp [hi]
theorem V_putZ (pc : Nat) {a idx ci j v : Nat} (F : w_FL M.1 idx ci j) (T : w_FT ci j .boolean false) (d : decode M.2.2.1 pc = .ok (.putfield idx, 3)) (hk : w_k S a j = some (ci, .inl 0)) (hz : v = 0 ∨ v = 1) (h : V M E Ω k n S (w_put I a j v) L (pc + 3) ls st) : V M E Ω k n S I L pc ls (.int (nI v) :: .ref (Ω.1 + a) :: st) := by
  obtain ⟨ks, h1, h2⟩ := w_k_spec hk
  refine V_put (kd' := .inl 0) pc F T d h1 (List.getElem?_eq_some_iff.mp h2).1 (fun q => by cases q) ?_ ?_ ?_ ?_ (w_put_ne I) (fun _ _ => rfl) ?_ (fun _ _ => rfl) h
  · rcases hz with rfl | rfl <;> rfl
  · rcases hz with rfl | rfl <;> rfl
  · rw [w_put_at]; simp [w_fv]
  · rw [← w_set_same h2]; exact w_set_same h1
  · intro i hi; rw [w_put_at]; simp [hi]
theorem V_putL (pc : Nat) {a idx ci j v : Nat} (F : w_FL M.1 idx ci j) (T : w_FT ci j .long false) (d : decode M.2.2.1 pc = .ok (.putfield idx, 3)) (hk : w_k S a j = some (ci, .inl 1)) (h : V M E Ω k n S I (w_put L a j v) (pc + 3) ls st) : V M E Ω k n S I L pc ls (.long (lN v) :: .ref (Ω.1 + a) :: st) := by
  obtain ⟨ks, h1, h2⟩ := w_k_spec hk
  refine V_put (kd' := .inl 1) pc F T d h1 (List.getElem?_eq_some_iff.mp h2).1 (fun q => by cases q) rfl rfl ?_ ?_ (fun _ _ => rfl) (w_put_ne L) (fun _ _ => rfl) ?_ h
  · rw [w_put_at]; simp [w_fv]
  · rw [← w_set_same h2]; exact w_set_same h1
  · intro i hi; rw [w_put_at]; simp [hi]
/-- a reference is written -/
theorem V_putR (pc : Nat) (S' : List w_SC) {a idx ci j r : Nat} {ty : FieldType} {fin : Bool} {ks : List (Nat ⊕ Option Nat)} (F : w_FL M.1 idx ci j) (T : w_FT ci j ty fin) (d : decode M.2.2.1 pc = .ok (.putfield idx, 3)) (h1 : S[a]? = some (.inr (ci, ks))) (h2 : j < ks.length)
    (hf : fin = true → M.2.1.name = "<init>" ∧ ∃ q : vw_C, vwCl[ci]? = some q ∧ (q.2.1 j).1 = M.1) (hty : ∀ x, narrow ty (.ref x) = .ref x ∧ fits ty (.ref x) = true) (hS' : S.set a (.inr (ci, ks.set j (.inr (some r)))) = S') (h : V M E Ω k n S' I L (pc + 3) ls st) : V M E Ω k n S I L pc ls (.ref (Ω.1 + r) :: .ref (Ω.1 + a) :: st) :=
  V_put (kd' := .inr (some r)) pc F T d h1 h2 hf (hty _).1 (hty _).2 rfl hS'.symm (fun _ _ => rfl) (fun _ _ => rfl) (fun _ _ => rfl) (fun _ _ => rfl) h
/-- rows -/
theorem V_iald (pc : Nat) {a nn i : Nat} (d : decode M.2.2.1 pc = .ok (.iaload, 1)) (hk : S[a]? = some (.inl (0, nn))) (hin : i < nn) (hnn : nn < 2 ^ 31) (h : V M E Ω k n S I L (pc + 1) ls (.int (nI (I a i)) :: st)) : V M E Ω k n S I L pc ls (.int (nI i) :: .ref (Ω.1 + a) :: st) := by
  intro p e s m args below meth c H lr locs C hm hn hc hR hS hl
  have hcl := nI_clamp (show i < 2 ^ 31 by omega)
  refine va_iald C.1 C.2.1 hR.1 hR.2.1 a 0 (w_ws_get Ω S I L hk) rfl (vp_in_nI hin hnn) d ?_
  rw [hcl]
  exact h p e s m args below meth c H lr locs C hm hn hc hR hS hl
theorem V_bald (pc : Nat) {a nn i : Nat} (d : decode M.2.2.1 pc = .ok (.baload, 1)) (hk : S[a]? = some (.inl (1, nn))) (hin : i < nn) (hnn : nn < 2 ^ 31) (h : V M E Ω k n S I L (pc + 1) ls (.int (nI (I a i)) :: st)) : V M E Ω k n S I L pc ls (.int (nI i) :: .ref (Ω.1 + a) :: st) := by
  intro p e s m args below meth c H lr locs C hm hn hc hR hS hl
  have hcl := nI_clamp (show i < 2 ^ 31 by omega)
  refine va_bald C.1 C.2.1 hR.1 hR.2.1 a 1 (w_ws_get Ω S I L hk) rfl (vp_in_nI hin hnn) d ?_
  rw [hcl]
  exact h p e s m args below meth c H lr locs C hm hn hc hR hS hl
theorem V_zald (pc : Nat) {a nn i : Nat} (d : decode M.2.2.1 pc = .ok (.baload, 1)) (hk : S[a]? = some (.inl (2, nn))) (hin : i < nn) (hnn : nn < 2 ^ 31) (h : V M E Ω k n S I L (pc + 1) ls (.int (nI (I a i)) :: st)) : V M E Ω k n S I L pc ls (.int (nI i) :: .ref (Ω.1 + a) :: st) := by
  intro p e s m args below meth c H lr locs C hm hn hc hR hS hl
  have hcl := nI_clamp (show i < 2 ^ 31 by omega)
  refine va_zald C.1 C.2.1 hR.1 hR.2.1 a 2 (w_ws_get Ω S I L hk) rfl (vp_in_nI hin hnn) d ?_
  rw [hcl]
  exact h p e s m args below meth c H lr locs C hm hn hc hR hS hl
theorem V_lald (pc : Nat) {a nn i : Nat} (d : decode M.2.2.1 pc = .ok (.laload, 1)) (hk : S[a]? = some (.inl (3, nn))) (hin : i < nn) (hnn : nn < 2 ^ 31) (h : V M E Ω k n S I L (pc + 1) ls (.long (lN (L a i)) :: st)) : V M E Ω k n S I L pc ls (.int (nI i) :: .ref (Ω.1 + a) :: st) := by
  intro p e s m args below meth c H lr locs C hm hn hc hR hS hl
  have hcl := nI_clamp (show i < 2 ^ 31 by omega)
  refine va_lald C.1 C.2.1 hR.1 hR.2.1 a 3 (w_ws_get Ω S I L hk) rfl (vp_in_nI hin hnn) d ?_
  rw [hcl]
  exact h p e s m args below meth c H lr locs C hm hn hc hR hS hl
theorem w_upd_row (I : w_I) (a j x : Nat) : (fun q => nI (w_put I a j x a q)) = upd (fun q => nI (I a q)) j (nI x) := by
  funext q
  rw [w_put_at]
  simp only [upd]
  split <;> rfl
theorem w_updL_row (L : w_L) (a j x : Nat) : (fun q => lN (w_put L a j x a q)) = vp_updL (fun q => lN (L a q)) j (lN x) := by
  funext q
  rw [w_put_at]
  simp only [vp_updL]
  split <;> rfl
theorem w_ws_row {a t nn : Nat} (hk : S[a]? = some (.inl (t, nn))) {I' : w_I} {L' : w_L} (hI : ∀ i, i ≠ a → I' i = I i) (hL : ∀ i, i ≠ a → L' i = L i) : w_ws Ω S I' L' = (w_ws Ω S I L).set a (Ω.1 + a, .inl (Ω.2.2.1 t, nn, w_ac (I' a) (L' a) t)) := w_ws_set Ω hk (w_set_same hk) hI hL
theorem w_ws_int {a t nn j x : Nat} (hk : S[a]? = some (.inl (t, nn))) (ht : t ≠ 3) : w_ws Ω S (w_put I a j x) L = (w_ws Ω S I L).set a (Ω.1 + a, .inl (Ω.2.2.1 t, nn, .inl (upd (fun q => nI (I a q)) j (nI x)))) := by
  rw [w_ws_row (Ω := Ω) hk (I' := w_put I a j x) (w_put_ne I) (fun _ _ => rfl), ← w_upd_row]
  congr 4
  unfold w_ac
  split
  · exact absurd rfl ht
  · rfl
theorem V_iast (pc : Nat) {a nn i x : Nat} (d : decode M.2.2.1 pc = .ok (.iastore, 1)) (hk : S[a]? = some (.inl (0, nn))) (hin : i < nn) (hnn : nn < 2 ^ 31) (h : V M E Ω k n S (w_put I a i x) L (pc + 1) ls st) : V M E Ω k n S I L pc ls (.int (nI x) :: .int (nI i) :: .ref (Ω.1 + a) :: st) := by
  intro p e s m args below meth c H lr locs C hm hn hc hR hS hl
  have e1 : w_ws Ω S (w_put I a i x) L = _ := w_ws_int (Ω := Ω) hk (by decide)
  have hcl := nI_clamp (show i < 2 ^ 31 by omega)
  refine va_iast C.1 C.2.1 hR.1 hR.2.1 hR.2.2 hS a 0 (w_ws_get Ω S I L hk) rfl (vp_in_nI hin hnn) d (fun H1 locs1 g1 g2 g3 => ?_)
  rw [hcl] at g1 g2
  exact h p e s m args below meth c H1 lr locs1 C hm hn hc ⟨hR.1, by rw [e1]; exact g1, by rw [e1]; exact g2⟩ g3 hl
/-- a byte, as a row of bytes keeps it -/
def w_b8 (x : Nat) : Nat := if x % 256 < 128 then x % 256 else 4294967040 + x % 256
theorem w_b8_all : ∀ q, q < 256 → (nI q).toInt8.toInt32 = nI (w_b8 q) := by decide +kernel
theorem w_b8_nI (x : Nat) : (nI x).toInt8.toInt32 = nI (w_b8 x) := by
  have h1 : (nI x).toInt8 = (nI (x % 256)).toInt8 := by
    apply Int8.toBitVec_inj.mp
    show (BitVec.ofNat 32 x).signExtend 8 = (BitVec.ofNat 32 (x % 256)).signExtend 8
    apply BitVec.eq_of_toNat_eq
    rw [BitVec.signExtend_eq_setWidth_of_le _ (by omega), BitVec.signExtend_eq_setWidth_of_le _ (by omega)]
    simp only [BitVec.toNat_setWidth, BitVec.toNat_ofNat]
    omega
  rw [h1, w_b8_all _ (Nat.mod_lt _ (by omega))]
  simp only [w_b8, Nat.mod_mod]
theorem V_bast (pc : Nat) {a nn i x : Nat} (d : decode M.2.2.1 pc = .ok (.bastore, 1)) (hk : S[a]? = some (.inl (1, nn))) (hin : i < nn) (hnn : nn < 2 ^ 31) (h : V M E Ω k n S (w_put I a i (w_b8 x)) L (pc + 1) ls st) : V M E Ω k n S I L pc ls (.int (nI x) :: .int (nI i) :: .ref (Ω.1 + a) :: st) := by
  intro p e s m args below meth c H lr locs C hm hn hc hR hS hl
  have e1 : w_ws Ω S (w_put I a i (w_b8 x)) L = _ := w_ws_int (Ω := Ω) hk (by decide)
  have hcl := nI_clamp (show i < 2 ^ 31 by omega)
  refine va_bast C.1 C.2.1 hR.1 hR.2.1 hR.2.2 hS a 1 (w_ws_get Ω S I L hk) rfl (vp_in_nI hin hnn) d (fun H1 locs1 g1 g2 g3 => ?_)
  rw [hcl, vp_nar_byte, w_b8_nI] at g1 g2
  exact h p e s m args below meth c H1 lr locs1 C hm hn hc ⟨hR.1, by rw [e1]; exact g1, by rw [e1]; exact g2⟩ g3 hl
theorem w_nar_z {x : Nat} (hz : x = 0 ∨ x = 1) : vp_nar .boolean (nI x) = nI x := by rcases hz with rfl | rfl <;> rfl
theorem V_zast (pc : Nat) {a nn i x : Nat} (d : decode M.2.2.1 pc = .ok (.bastore, 1)) (hk : S[a]? = some (.inl (2, nn))) (hin : i < nn) (hnn : nn < 2 ^ 31) (hz : x = 0 ∨ x = 1) (h : V M E Ω k n S (w_put I a i x) L (pc + 1) ls st) : V M E Ω k n S I L pc ls (.int (nI x) :: .int (nI i) :: .ref (Ω.1 + a) :: st) := by
  intro p e s m args below meth c H lr locs C hm hn hc hR hS hl
  have e1 : w_ws Ω S (w_put I a i x) L = _ := w_ws_int (Ω := Ω) hk (by decide)
  have hcl := nI_clamp (show i < 2 ^ 31 by omega)
  refine va_zast C.1 C.2.1 hR.1 hR.2.1 hR.2.2 hS a 2 (w_ws_get Ω S I L hk) rfl (vp_in_nI hin hnn) d (fun H1 locs1 g1 g2 g3 => ?_)
  rw [hcl, w_nar_z hz] at g1 g2
  exact h p e s m args below meth c H1 lr locs1 C hm hn hc ⟨hR.1, by rw [e1]; exact g1, by rw [e1]; exact g2⟩ g3 hl
theorem V_last (pc : Nat) {a nn i x : Nat} (d : decode M.2.2.1 pc = .ok (.lastore, 1)) (hk : S[a]? = some (.inl (3, nn))) (hin : i < nn) (hnn : nn < 2 ^ 31) (h : V M E Ω k n S I (w_put L a i x) (pc + 1) ls st) : V M E Ω k n S I L pc ls (.long (lN x) :: .int (nI i) :: .ref (Ω.1 + a) :: st) := by
  intro p e s m args below meth c H lr locs C hm hn hc hR hS hl
  have e1 : w_ws Ω S I (w_put L a i x) = (w_ws Ω S I L).set a (Ω.1 + a, .inl (Ω.2.2.1 3, nn, .inr (.inl (vp_updL (fun q => lN (L a q)) i (lN x))))) := by
    rw [w_ws_row (Ω := Ω) hk (L' := w_put L a i x) (fun _ _ => rfl) (w_put_ne L), ← w_updL_row]
    rfl
  have hcl := nI_clamp (show i < 2 ^ 31 by omega)
  refine va_last C.1 C.2.1 hR.1 hR.2.1 hR.2.2 hS a 3 (w_ws_get Ω S I L hk) rfl (vp_in_nI hin hnn) d (fun H1 locs1 g1 g2 g3 => ?_)
  rw [hcl] at g1 g2
  exact h p e s m args below meth c H1 lr locs1 C hm hn hc ⟨hR.1, by rw [e1]; exact g1, by rw [e1]; exact g2⟩ g3 hl
theorem V_alen (pc : Nat) {a t nn : Nat} (d : decode M.2.2.1 pc = .ok (.arraylength, 1)) (hk : S[a]? = some (.inl (t, nn))) (ht : t < 4) (h : V M E Ω k n S I L (pc + 1) ls (.int (nI nn) :: st)) : V M E Ω k n S I L pc ls (.ref (Ω.1 + a) :: st) := by
  intro p e s m args below meth c H lr locs C hm hn hc hR hS hl
  have h2 := h p e s m args below meth c H lr locs C hm hn hc hR hS hl
  rcases (show t = 0 ∨ t = 1 ∨ t = 2 ∨ t = 3 by omega) with rfl | rfl | rfl | rfl
  · exact va_alen C.1 C.2.1 hR.1 hR.2.1 a 0 (w_ws_get Ω S I L hk) rfl rfl d h2
  · exact va_alen C.1 C.2.1 hR.1 hR.2.1 a 1 (w_ws_get Ω S I L hk) rfl rfl d h2
  · exact va_alen C.1 C.2.1 hR.1 hR.2.1 a 2 (w_ws_get Ω S I L hk) rfl rfl d h2
  · exact va_alen C.1 C.2.1 hR.1 hR.2.1 a 3 (w_ws_get Ω S I L hk) rfl rfl d h2
/-- the script -/
theorem V_sld (pc : Nat) {i : Nat} (d : decode M.2.2.1 pc = .ok (.iaload, 1)) (hin : i < Ω.2.2.2.1.2.1) (hnn : Ω.2.2.2.1.2.1 < 2 ^ 31) (h : V M E Ω k n S I L (pc + 1) ls (.int (Ω.2.2.2.1.2.2 i) :: st)) : V M E Ω k n S I L pc ls (.int (nI i) :: .ref Ω.2.2.2.1.1 :: st) := by
  intro p e s m args below meth c H lr locs C hm hn hc hR hS hl
  have hcl := nI_clamp (show i < 2 ^ 31 by omega)
  refine va_sld C.1 C.2.1 hc.2.1.1 (Nat.lt_of_lt_of_le hc.2.1.2 hc.1) (Nat.not_le.mpr hc.2.1.2) hS (vp_in_nI hin hnn) d ?_
  rw [hcl]
  exact h p e s m args below meth c H lr locs C hm hn hc hR hS hl
theorem V_slen (pc : Nat) (d : decode M.2.2.1 pc = .ok (.arraylength, 1)) (h : V M E Ω k n S I L (pc + 1) ls (.int (nI Ω.2.2.2.1.2.1) :: st)) : V M E Ω k n S I L pc ls (.ref Ω.2.2.2.1.1 :: st) := by
  intro p e s m args below meth c H lr locs C hm hn hc hR hS hl
  exact va_slen C.1 C.2.1 hc.2.1.1 (Nat.lt_of_lt_of_le hc.2.1.2 hc.1) (Nat.not_le.mpr hc.2.1.2) hS d (h p e s m args below meth c H lr locs C hm hn hc hR hS hl)
/-- a place's digit in a row, as a number of base 3 -/
def w_dn (j : Nat) : Nat := [177147, 59049, 19683, 6561, 2187, 729, 243, 81, 27, 9, 3, 1].getD j 0
/-- a literal that is a word of a text -/
theorem V_lit (pc : Nat) {idx w : Nat} (tx : String) (hw : (M.1, idx, tx, w) ∈ w_lits) (d : decode M.2.2.1 pc = .ok (.ldc idx, 2)) (h : V M E Ω k n S I L (pc + 2) ls (.ref (Ω.2.2.2.2.1.1 w) :: st)) : V M E Ω k n S I L pc ls st := by
  intro p e s m args below meth c H lr locs C hm hn hc hR hS hl
  exact va_ldcS C.1 C.2.1 C.2.2.2.1 (hc.2.2.2.1 _ hw) d (h p e s m args below meth c H lr locs C hm hn hc hR hS hl)
end
