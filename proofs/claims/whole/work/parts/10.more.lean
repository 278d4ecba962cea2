def w_dv : (Nat ⊕ Option Nat) → Value
  | .inl 0 => .int 0
  | .inl _ => .long 0
  | .inr _ => .null
def w_nr : (Nat ⊕ Option Nat) → Bool
  | .inr (some _) => false
  | _ => true
theorem w_mn : Cond.static Lib.Math.min.name ∈ w_tb ∧ Cond.initialized "java/lang/Math" ∈ w_tb ∧ Cond.code Lib.Math.min.name Lib.Math.min.code 2 (some .int) ∈ w_tb := ⟨wi_856, wi_74, w_in 857 (by decide +kernel) (by decide +kernel)⟩
theorem w_acp : Cond.native arraycopyName ∈ w_tb ∧ Cond.static arraycopyName ∈ w_tb ∧ Cond.initialized "java/lang/System" ∈ w_tb := ⟨wi_460, wi_459, wi_73⟩
theorem w_oi : Cond.instanceMethod Lib.objectInit ∈ w_tb ∧ Cond.code Lib.objectInit ⟨#[0xb1]⟩ 1 none ∈ w_tb := ⟨wi_82, wi_83⟩
theorem moX7_1 : Cond.methodLink RX7 1 Lib.objectInit ∈ w_tb := wi_81
theorem moX4_3 : Cond.methodLink RX4 3 Lib.objectInit ∈ w_tb := wi_89
theorem moX3_3 : Cond.methodLink RX3 3 Lib.objectInit ∈ w_tb := wi_95
theorem w_ar_byte : Cond.arrayClass .byte ∈ w_tb := wi_186
theorem w_ar_int : Cond.arrayClass .int ∈ w_tb := wi_187
theorem moX5_3 : Cond.methodLink RX5 3 Lib.objectInit ∈ w_tb := wi_228
theorem moX0_3 : Cond.methodLink RX0 3 Lib.objectInit ∈ w_tb := wi_263
theorem moX1_1 : Cond.methodLink RX1 1 Lib.objectInit ∈ w_tb := wi_311
theorem moX6_3 : Cond.methodLink RX6 3 Lib.objectInit ∈ w_tb := wi_339
theorem moX2_3 : Cond.methodLink RX2 3 Lib.objectInit ∈ w_tb := wi_371
theorem maX0_50 : Cond.methodLink RX0 50 arraycopyName ∈ w_tb := wi_458
theorem maX5_42 : Cond.methodLink RX5 42 arraycopyName ∈ w_tb := wi_465
theorem maX3_61 : Cond.methodLink RX3 61 arraycopyName ∈ w_tb := wi_679
theorem mnX2_68 : Cond.methodLink RX2 68 Lib.Math.min.name ∈ w_tb := wi_855
theorem maX2_73 : Cond.methodLink RX2 73 arraycopyName ∈ w_tb := wi_859
theorem mnX6_80 : Cond.methodLink RX6 80 Lib.Math.min.name ∈ w_tb := wi_922
theorem moX8_1 : Cond.methodLink RX8 1 Lib.objectInit ∈ w_tb := wi_956
theorem w_ar_boolean : Cond.arrayClass .boolean ∈ w_tb := wi_1134
theorem mnX8_164 : Cond.methodLink RX8 164 Lib.Math.min.name ∈ w_tb := wi_1165
theorem w_ar_long : Cond.arrayClass .long ∈ w_tb := wi_1413
def w_f0 : List (Nat ⊕ Option Nat) := [.inr none, .inl 0, .inl 0, .inl 0, .inl 0, .inl 0, .inl 0, .inl 0, .inr none, .inr none, .inr none]
theorem w_n0 : w_f0.length = 11 ∧ w_f0.all w_nr = true ∧ ∀ j, j < 11 → defaultValue (tyX0 j) = w_dv (w_f0.getD j (.inl 0)) := ⟨rfl, rfl, by decide +kernel⟩
theorem w_nw0 : Cond.instantiable RX0 11 ∈ w_tb ∧ Cond.initialized RX0 ∈ w_tb := ⟨wi_259, wi_60⟩
def w_f1 : List (Nat ⊕ Option Nat) := [.inl 0, .inr none, .inr none, .inl 0, .inl 0]
theorem w_n1 : w_f1.length = 5 ∧ w_f1.all w_nr = true ∧ ∀ j, j < 5 → defaultValue (tyX1 j) = w_dv (w_f1.getD j (.inl 0)) := ⟨rfl, rfl, by decide +kernel⟩
theorem w_nw1 : Cond.instantiable RX1 5 ∈ w_tb ∧ Cond.initialized RX1 ∈ w_tb := ⟨wi_307, wi_61⟩
def w_f2 : List (Nat ⊕ Option Nat) := [.inr none, .inr none, .inr none, .inr none, .inl 0, .inl 0]
theorem w_n2 : w_f2.length = 6 ∧ w_f2.all w_nr = true ∧ ∀ j, j < 6 → defaultValue (tyX2 j) = w_dv (w_f2.getD j (.inl 0)) := ⟨rfl, rfl, by decide +kernel⟩
theorem w_nw2 : Cond.instantiable RX2 6 ∈ w_tb ∧ Cond.initialized RX2 ∈ w_tb := ⟨wi_367, wi_63⟩
def w_f3 : List (Nat ⊕ Option Nat) := [.inl 0, .inr none, .inl 0, .inr none, .inr none, .inr none, .inl 0, .inr none, .inr none, .inr none, .inr none, .inr none, .inr none, .inr none, .inl 0]
theorem w_n3 : w_f3.length = 15 ∧ w_f3.all w_nr = true ∧ ∀ j, j < 15 → defaultValue (tyX3 j) = w_dv (w_f3.getD j (.inl 0)) := ⟨rfl, rfl, by decide +kernel⟩
theorem w_nw3 : Cond.instantiable RX3 15 ∈ w_tb ∧ Cond.initialized RX3 ∈ w_tb := ⟨wi_91, wi_57⟩
def w_f4 : List (Nat ⊕ Option Nat) := [.inr none, .inr none, .inl 0, .inl 0, .inl 0, .inl 0, .inl 0, .inl 0, .inl 0, .inl 0]
theorem w_n4 : w_f4.length = 10 ∧ w_f4.all w_nr = true ∧ ∀ j, j < 10 → defaultValue (tyX4 j) = w_dv (w_f4.getD j (.inl 0)) := ⟨rfl, rfl, by decide +kernel⟩
theorem w_nw4 : Cond.instantiable RX4 10 ∈ w_tb ∧ Cond.initialized RX4 ∈ w_tb := ⟨wi_85, wi_56⟩
def w_f5 : List (Nat ⊕ Option Nat) := [.inl 0, .inr none, .inr none, .inr none, .inr none, .inr none, .inr none]
theorem w_n5 : w_f5.length = 7 ∧ w_f5.all w_nr = true ∧ ∀ j, j < 7 → defaultValue (tyX5 j) = w_dv (w_f5.getD j (.inl 0)) := ⟨rfl, rfl, by decide +kernel⟩
theorem w_nw5 : Cond.instantiable RX5 7 ∈ w_tb ∧ Cond.initialized RX5 ∈ w_tb := ⟨wi_224, wi_59⟩
def w_f6 : List (Nat ⊕ Option Nat) := [.inr none, .inl 0, .inl 0, .inr none, .inr none, .inr none, .inr none]
theorem w_n6 : w_f6.length = 7 ∧ w_f6.all w_nr = true ∧ ∀ j, j < 7 → defaultValue (tyX6 j) = w_dv (w_f6.getD j (.inl 0)) := ⟨rfl, rfl, by decide +kernel⟩
theorem w_nw6 : Cond.instantiable RX6 7 ∈ w_tb ∧ Cond.initialized RX6 ∈ w_tb := ⟨wi_335, wi_62⟩
def w_f7 : List (Nat ⊕ Option Nat) := [.inr none, .inl 0, .inr none, .inl 0, .inr none, .inr none, .inr none, .inl 0, .inl 0, .inr none, .inr none, .inr none, .inr none, .inl 0]
theorem w_n7 : w_f7.length = 14 ∧ w_f7.all w_nr = true ∧ ∀ j, j < 14 → defaultValue (tyX7 j) = w_dv (w_f7.getD j (.inl 0)) := ⟨rfl, rfl, by decide +kernel⟩
theorem w_nw7 : Cond.instantiable RX7 14 ∈ w_tb ∧ Cond.initialized RX7 ∈ w_tb := ⟨wi_77, wi_55⟩
def w_f8 : List (Nat ⊕ Option Nat) := [.inl 0, .inr none, .inr none, .inr none, .inr none, .inr none, .inr none, .inr none, .inr none, .inr none, .inr none, .inl 0, .inr none, .inr none, .inr none, .inr none, .inr none, .inr none, .inl 0, .inl 0, .inl 0, .inl 0, .inl 0, .inl 0, .inl 0, .inl 0, .inl 0, .inl 0, .inr none, .inr none, .inr none, .inr none, .inr none, .inr none, .inr none, .inr none, .inr none, .inr none, .inr none, .inr none, .inr none, .inl 0, .inl 0, .inl 0, .inl 0, .inr none, .inr none, .inr none, .inr none, .inr none, .inl 0, .inl 0, .inl 0, .inl 0, .inl 0, .inr none, .inr none]
theorem w_n8 : w_f8.length = 57 ∧ w_f8.all w_nr = true ∧ ∀ j, j < 57 → defaultValue (tyX8 j) = w_dv (w_f8.getD j (.inl 0)) := ⟨rfl, rfl, by decide +kernel⟩
theorem w_nw8 : Cond.instantiable RX8 57 ∈ w_tb ∧ Cond.initialized RX8 ∈ w_tb := ⟨wi_952, wi_64⟩

/-- what 'new' makes of a class -/
def w_NC (ci N : Nat) (ks : List (Nat ⊕ Option Nat)) : Prop := ∃ (C : String) (T : u_T) (ty : Nat → FieldType), vwCl[ci]? = some (C, T, N) ∧ (∀ w ∈ u_ws C T N, w ∈ w_tb) ∧ (∀ k, k < N → parseFieldDescriptor (T k).2.2.1 = some (ty k)) ∧ Cond.instantiable C N ∈ w_tb ∧ Cond.initialized C ∈ w_tb ∧ ks.length = N ∧ ks.all w_nr = true ∧ ∀ j, j < N → defaultValue (ty j) = w_dv (ks.getD j (.inl 0))
theorem w_nc0 : w_NC 0 11 w_f0 := ⟨RX0, TX0, tyX0, rfl, in_0, tyX0_ok, w_nw0.1, w_nw0.2, w_n0⟩
theorem w_nc1 : w_NC 1 5 w_f1 := ⟨RX1, TX1, tyX1, rfl, in_1, tyX1_ok, w_nw1.1, w_nw1.2, w_n1⟩
theorem w_nc2 : w_NC 2 6 w_f2 := ⟨RX2, TX2, tyX2, rfl, in_2, tyX2_ok, w_nw2.1, w_nw2.2, w_n2⟩
theorem w_nc3 : w_NC 3 15 w_f3 := ⟨RX3, TX3, tyX3, rfl, in_3, tyX3_ok, w_nw3.1, w_nw3.2, w_n3⟩
theorem w_nc4 : w_NC 4 10 w_f4 := ⟨RX4, TX4, tyX4, rfl, in_4, tyX4_ok, w_nw4.1, w_nw4.2, w_n4⟩
theorem w_nc5 : w_NC 5 7 w_f5 := ⟨RX5, TX5, tyX5, rfl, in_5, tyX5_ok, w_nw5.1, w_nw5.2, w_n5⟩
theorem w_nc6 : w_NC 6 7 w_f6 := ⟨RX6, TX6, tyX6, rfl, in_6, tyX6_ok, w_nw6.1, w_nw6.2, w_n6⟩
theorem w_nc7 : w_NC 7 14 w_f7 := ⟨RX7, TX7, tyX7, rfl, in_7, tyX7_ok, w_nw7.1, w_nw7.2, w_n7⟩
theorem w_nc8 : w_NC 8 57 w_f8 := ⟨RX8, TX8, tyX8, rfl, in_8, tyX8_ok, w_nw8.1, w_nw8.2, w_n8⟩
section
variable {M : w_M} {E : w_E} {Ω : w_O} {k n : Nat} {S : List w_SC} {I : w_I} {L : w_L} {ls : List (Nat × Value)} {st : List Value}
theorem V_mini (pc : Nat) {idx x y : Nat} (hx : x < 2 ^ 31) (hy : y < 2 ^ 31) (hk : Cond.methodLink M.1 idx Lib.Math.min.name ∈ w_tb) (d : decode M.2.2.1 pc = .ok (.invokestatic idx, 3)) (hE : w_fit 0 E) (hw : (st.map fun v => v.category).sum ≤ 8) (h : V M E Ω k n S I L (pc + 3) ls (.int (nI (min x y)) :: st)) : V M E Ω k n S I L pc ls (.int (nI y) :: .int (nI x) :: st) := by
  intro p e s m args below meth c H lr locs C hm hn hc hR hS hl
  have h1 := hE.1
  have h2 := hE.2
  refine va_mmin C.1 C.2.1 (C.2.2.1.trans hl.1.symm) C.2.2.2.1 (C.2.2.2.2 _ hk) (C.2.2.2.2 _ w_mn.1) (C.2.2.2.2 _ w_mn.2.1) (C.2.2.2.2 _ w_mn.2.2) (by omega) (by omega) hn.1 hn.2 d ?_
  have e1 : (if nI y < nI x then nI y else nI x) = nI (min x y) := by
    simp only [nI_ltI hy hx]
    split
    · rw [Nat.min_eq_right (by omega)]
    · rw [Nat.min_eq_left (by omega)]
  rw [e1]
  exact h p e s m args below meth c H lr locs C hm hn hc hR hS hl
/-- the first q of a row of ints behind another's, both from their beginnings (System.arraycopy) -/
def w_cp (f g : Nat → Nat) (q : Nat) : Nat → Nat := fun j => if j < q then f j else g j
theorem V_copyi (pc : Nat) {idx a b na nb q : Nat} (hk : Cond.methodLink M.1 idx arraycopyName ∈ w_tb) (d : decode M.2.2.1 pc = .ok (.invokestatic idx, 3)) (hE : w_fit 0 E) (hw : (st.map fun v => v.category).sum ≤ 8) (ha : S[a]? = some (.inl (0, na))) (hb : S[b]? = some (.inl (0, nb))) (h4 : q ≤ na) (h5 : q ≤ nb) (h6 : q < 2 ^ 31)
    (h : V M E Ω k n S (w_row I b (w_cp (I a) (I b) q)) L (pc + 3) ls st) : V M E Ω k n S I L pc ls (.int (nI q) :: .int (nI 0) :: .ref (Ω.1 + b) :: .int (nI 0) :: .ref (Ω.1 + a) :: st) := by
  intro p e s m args below meth c H lr locs C hm hn hc hR hS hl
  have g1 := hE.1
  have g2 := hE.2
  have hq := nI_clamp h6
  have h0 : (nI 0).toNatClampNeg = 0 := rfl
  have e1 : w_ws Ω S (w_row I b (w_cp (I a) (I b) q)) L = (w_ws Ω S I L).set b (Ω.1 + b, .inl (Ω.2.2.1 0, nb, .inl (va_cpy (fun j => nI (I a j)) (fun j => nI (I b j)) 0 0 q))) := by
    rw [w_ws_row (Ω := Ω) hb (I' := w_row I b (w_cp (I a) (I b) q)) (w_row_ne I) (fun _ _ => rfl), w_row_at]
    have e2 : (fun j => nI (w_cp (I a) (I b) q j)) = va_cpy (fun j => nI (I a j)) (fun j => nI (I b j)) 0 0 q := by
      funext j
      simp only [w_cp, va_cpy, Nat.zero_le, true_and, Nat.zero_add, Nat.sub_zero]
      split <;> rfl
    rw [← e2]
    rfl
  refine va_copyi C.1 C.2.1 (C.2.2.1.trans hl.1.symm) C.2.2.2.1 (C.2.2.2.2 _ hk) (C.2.2.2.2 _ w_acp.1) (C.2.2.2.2 _ w_acp.2.1) (C.2.2.2.2 _ w_acp.2.2) hR.1 hR.2.1 hR.2.2 hS a b 0 0 (w_ws_get Ω S I L ha) (w_ws_get Ω S I L hb) rfl rfl rfl (by decide) (by decide) (nI_pos h6) (by rw [hq, h0]; omega) (by rw [hq, h0]; omega) (fun _ _ => rfl) (by omega) (by show _ + (5 + 2 + 11) ≤ _; omega) d
    (fun H1 locs1 f1 f2 f3 => ?_)
  rw [hq, h0] at f1 f2
  exact h p e s m args below meth c H1 lr locs1 C hm hn hc ⟨hR.1, by rw [e1]; exact f1, by rw [e1]; exact f2⟩ f3 hl
theorem V_oinit (pc : Nat) {idx a : Nat} (hk : Cond.methodLink M.1 idx Lib.objectInit ∈ w_tb) (d : decode M.2.2.1 pc = .ok (.invokespecial idx, 3)) (hE : w_fit 0 E) (hw : (st.map fun v => v.category).sum ≤ 8) (h : V M E Ω k n S I L (pc + 3) ls st) : V M E Ω k n S I L pc ls (.ref a :: st) := by
  intro p e s m args below meth c H lr locs C hm hn hc hR hS hl
  have g1 := hE.1
  have g2 := hE.2
  have g3 := lv_room (m := m) (pc := pc) (ls := lr) (rest := st) hw
  exact W.objInit (g := F0 m pc lr (.ref a :: st)) C.1 C.2.1 C.2.2.2.1 (C.2.2.2.2 _ hk) (C.2.2.2.2 _ w_oi.1) (C.2.2.2.2 _ w_oi.2) rfl (hl.1.trans C.2.2.1.symm) rfl d (by omega) (by have : 2 * (F0 m pc lr (.ref a :: st)).monitorRoom + (st.map fun v => v.category).sum ≤ 8 := g3; omega) (h p e s m args below meth c H lr locs C hm hn hc hR hS hl)
/-- the heap ends where the picture ends -/
theorem w_size {p : Program} {l : Launch} {e : Env} {R : Room} {s : State} {m : MethodId} {args : Array Value} {below : List Frame} {meth : Method} {c : Code} {T : State} {H : Heap} {locs : List Loc} (X : Stand p l e R s m args below meth c T locs k n) (hT : T.heap = H) (hz : s.heap.size + k = Ω.1 + S.length) (hc : Ω.1 ≤ s.heap.size) (hR : w_Rel Ω S I L s H) (hS : va_S (w_A Ω) s.heap H locs) : H.size = Ω.1 + S.length := by
  have h1 := X.heapSize
  rw [hT] at h1
  have h2 : Ω.1 + S.length ≤ H.size := by
    cases hlen : S.length with
    | zero => have := hS.1; omega
    | succ j =>
      have hj : j < S.length := by omega
      have h3 := hR.2.1 j _ (w_ws_get Ω S I L (List.getElem?_eq_getElem hj))
      have h4 : Ω.1 + j < H.size := h3.lt
      omega
  omega
theorem V_new (pc : Nat) (S' : List w_SC) {idx ci N : Nat} {ks : List (Nat ⊕ Option Nat)} {C : String} (K : w_NC ci N ks) (hcl : Cond.classLink M.1 idx C ∈ w_tb) (hC : ∃ q : vw_C, vwCl[ci]? = some q ∧ q.1 = C) (d : decode M.2.2.1 pc = .ok (.new idx, 3)) (hz : E.2.2.2.1 + k = Ω.1 + S.length) (hI : ∀ j, I S.length j = 0) (hL : ∀ j, L S.length j = 0) (hr : k + 1 ≤ E.2.1.cells ∧ n + N ≤ E.2.1.slots) (hS' : S ++ [.inr (ci, ks)] = S')
    (h : V M E Ω (k + 1) (n + N) S' I L (pc + 3) ls (.ref (Ω.1 + S.length) :: st)) : V M E Ω k n S I L pc ls st := by
  intro p e s m args below meth c H lr locs C0 hm hn hc hR hS hl T hT X
  obtain ⟨C1, T1, ty, k1, k2, k3, k4, k5, k6, k7, k8⟩ := K
  obtain ⟨q, q1, q2⟩ := hC
  cases k1.symm.trans q1
  subst q2
  subst hS'
  have hsz : H.size = Ω.1 + S.length := w_size X hT (by rw [hm.2.2.2.1]; exact hz) hc.1 hR hS
  have hKn := hR.1.1 ci _ k1
  refine W.newcK (g := F0 m pc lr st) C0.1 C0.2.1 C0.2.2.2.1 (C0.2.2.2.2 _ hcl) (C0.2.2.2.2 _ k4) (C0.2.2.2.2 _ k5) rfl d hr.1 hr.2 hKn.2.1 hsz (fun H1 kC hkC e1 z1 o1 => ?_) T hT X
  have hk : ∀ (k : Nat) (x : Nat × va_E), (w_ws Ω S I L)[k]? = some x → H1[x.1]? = H[x.1]? := fun k x hx => o1 x.1 (by rw [← hsz]; exact (hR.2.1 k x hx).lt)
  refine h p e s m args below meth c H1 lr locs C0 hm hr hc ⟨hR.1, ?_, ?_⟩ ⟨Nat.le_trans hS.1 (by omega), fun x h1 h2 => (o1 x (by have := hS.1; omega)).trans (hS.2.1 x h1 h2), hS.2.2⟩ hl
  · rw [w_ws_app]
    refine (hR.2.1.kept hk).app (fun k x hx => ?_)
    have hz : k < 1 := (List.getElem?_eq_some_iff.mp hx).1
    rw [show k = 0 by omega] at hx
    cases hx
    refine ⟨_, k1, (u_born ty C0.2.2.2.2 k2 hKn hkC e1 k3).to ?_⟩
    intro j hj
    have hj2 : j < ks.length := by omega
    have e9 : ks[j]? = some ks[j] := List.getElem?_eq_getElem hj2
    have e8 : w_nr ks[j] = true := List.all_eq_true.mp k7 _ (List.getElem_mem hj2)
    rw [k8 j hj]
    simp only [vp_V, List.getD_eq_getElem?_getD, List.getElem?_mapIdx, e9, Option.map_some, Option.getD_some]
    generalize ks[j] = kd at e8
    rcases kd with q | q
    · cases q with
      | zero => simp only [w_dv, w_fv, hI]; rfl
      | succ q => simp only [w_dv, w_fv, hL]; rfl
    · cases q with
      | none => rfl
      | some q => cases e8
  · rw [w_ws_app]
    exact hR.2.2.push hR.2.1 hsz.symm (Nat.le_add_right _ _)
/-- a row of numbers is made -/
theorem V_newa (pc : Nat) (S' : List w_SC) {t nn : Nat} {at0 : ArrayType} (ht : t < 4) (hat : newarray.typeOf at0 = (w_tys Ω.2.2.1)[t].2) (hw : Cond.arrayClass (newarray.typeOf at0) ∈ w_tb) (d : decode M.2.2.1 pc = .ok (.newarray at0, 2)) (hb : nn ≤ 110000) (hz : E.2.2.2.1 + k = Ω.1 + S.length) (hI : ∀ j, I S.length j = 0) (hL : ∀ j, L S.length j = 0) (hr : k + 1 ≤ E.2.1.cells ∧ n + nn ≤ E.2.1.slots) (hS' : S ++ [.inl (t, nn)] = S')
    (h : V M E Ω (k + 1) (n + nn) S' I L (pc + 2) ls (.ref (Ω.1 + S.length) :: st)) : V M E Ω k n S I L pc ls (.int (nI nn) :: st) := by
  intro p e s m args below meth c H lr locs C0 hm hn hc hR hS hl T hT X
  subst hS'
  have hsz : H.size = Ω.1 + S.length := w_size X hT (by rw [hm.2.2.2.1]; exact hz) hc.1 hR hS
  have hlt : nn < 2 ^ 31 := by omega
  have hbytes : nn * componentBytes (newarray.typeOf at0) ≤ 536870912 := by
    cases at0 <;> simp only [newarray.typeOf, componentBytes] <;> omega
  refine va_newaK (g := F0 m pc lr (.int (nI nn) :: st)) C0.1 C0.2.1 (C0.2.2.2.2 _ hw) rfl d rfl (nI_pos hlt) (nI_clamp hlt) hbytes hr.1 hr.2 hsz (fun H1 cA e1 z1 o1 hAr hNm => ?_) T hT X
  have hk : ∀ (k : Nat) (x : Nat × va_E), (w_ws Ω S I L)[k]? = some x → H1[x.1]? = H[x.1]? := fun k x hx => o1 x.1 (by rw [← hsz]; exact (hR.2.1 k x hx).lt)
  have hcA : cA = Ω.2.2.1 t := by
    rcases (show t = 0 ∨ t = 1 ∨ t = 2 ∨ t = 3 by omega) with rfl | rfl | rfl | rfl
    · have h1 := (hR.1.2 0 (Ω.2.2.1 0, .int) rfl).2
      rw [show newarray.typeOf at0 = .int from hat] at hNm
      exact Option.some.inj (hNm.symm.trans h1)
    · have h1 := (hR.1.2 1 (Ω.2.2.1 1, .byte) rfl).2
      rw [show newarray.typeOf at0 = .byte from hat] at hNm
      exact Option.some.inj (hNm.symm.trans h1)
    · have h1 := (hR.1.2 2 (Ω.2.2.1 2, .boolean) rfl).2
      rw [show newarray.typeOf at0 = .boolean from hat] at hNm
      exact Option.some.inj (hNm.symm.trans h1)
    · have h1 := (hR.1.2 3 (Ω.2.2.1 3, .long) rfl).2
      rw [show newarray.typeOf at0 = .long from hat] at hNm
      exact Option.some.inj (hNm.symm.trans h1)
  refine h p e s m args below meth c H1 lr locs C0 hm hr hc ⟨hR.1, ?_, ?_⟩ ⟨Nat.le_trans hS.1 (by omega), fun x h1 h2 => (o1 x (by have := hS.1; omega)).trans (hS.2.1 x h1 h2), hS.2.2⟩ hl
  · rw [w_ws_app]
    refine (hR.2.1.kept hk).app (fun k x hx => ?_)
    have hz : k < 1 := (List.getElem?_eq_some_iff.mp hx).1
    rw [show k = 0 by omega] at hx
    cases hx
    show H1[Ω.1 + S.length]? = some (vp_cell _ _)
    rw [e1, hcA, show I S.length = fun _ => 0 from funext hI, show L S.length = fun _ => 0 from funext hL]
    rcases (show t = 0 ∨ t = 1 ∨ t = 2 ∨ t = 3 by omega) with rfl | rfl | rfl | rfl
    · rw [show newarray.typeOf at0 = .int from hat]; rfl
    · rw [show newarray.typeOf at0 = .byte from hat]; rfl
    · rw [show newarray.typeOf at0 = .boolean from hat]; rfl
    · rw [show newarray.typeOf at0 = .long from hat]; rfl
  · rw [w_ws_app]
    exact hR.2.2.push hR.2.1 hsz.symm (Nat.le_add_right _ _)
end
