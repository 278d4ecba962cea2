/-! THE ROWS OF V, an instruction each -/
theorem V_iconst {M : w_M} {E : w_E} {Ω : w_O} {k n : Nat} {S : List w_SC} {I : w_I} {L : w_L} {ls : List (Nat × Value)} {st : List Value} (pc : Nat) {q : Int} (v : Int32) (d : decode M.2.2.1 pc = .ok (.iconst q, 1)) (hv : Int32.ofInt q = v) (h : V M E Ω k n S I L (pc + 1) ls (.int v :: st)) : V M E Ω k n S I L pc ls (st) := by
  intro p e s m args below meth c H lr locs C hm hn hc hR hS hl
  exact lv_iconst C.1 C.2.1 d hv (h p e s m args below meth c H lr locs C hm hn hc hR hS hl)
theorem V_bipush {M : w_M} {E : w_E} {Ω : w_O} {k n : Nat} {S : List w_SC} {I : w_I} {L : w_L} {ls : List (Nat × Value)} {st : List Value} (pc : Nat) {q : Int} (v : Int32) (d : decode M.2.2.1 pc = .ok (.bipush q, 2)) (hv : (Int8.ofInt q).toInt32 = v) (h : V M E Ω k n S I L (pc + 2) ls (.int v :: st)) : V M E Ω k n S I L pc ls (st) := by
  intro p e s m args below meth c H lr locs C hm hn hc hR hS hl
  exact lv_bipush C.1 C.2.1 d hv (h p e s m args below meth c H lr locs C hm hn hc hR hS hl)
theorem V_sipush {M : w_M} {E : w_E} {Ω : w_O} {k n : Nat} {S : List w_SC} {I : w_I} {L : w_L} {ls : List (Nat × Value)} {st : List Value} (pc : Nat) {q : Int} (v : Int32) (d : decode M.2.2.1 pc = .ok (.sipush q, 3)) (hv : (Int16.ofInt q).toInt32 = v) (h : V M E Ω k n S I L (pc + 3) ls (.int v :: st)) : V M E Ω k n S I L pc ls (st) := by
  intro p e s m args below meth c H lr locs C hm hn hc hR hS hl
  exact lv_sipush C.1 C.2.1 d hv (h p e s m args below meth c H lr locs C hm hn hc hR hS hl)
theorem V_lconst {M : w_M} {E : w_E} {Ω : w_O} {k n : Nat} {S : List w_SC} {I : w_I} {L : w_L} {ls : List (Nat × Value)} {st : List Value} (pc : Nat) {q : Fin 2} (v : Int64) (d : decode M.2.2.1 pc = .ok (.lconst q, 1)) (hv : Int64.ofNat (q : Nat) = v) (h : V M E Ω k n S I L (pc + 1) ls (.long v :: st)) : V M E Ω k n S I L pc ls (st) := by
  intro p e s m args below meth c H lr locs C hm hn hc hR hS hl
  exact lv_lconst C.1 C.2.1 d hv (h p e s m args below meth c H lr locs C hm hn hc hR hS hl)
theorem V_ldc {M : w_M} {E : w_E} {Ω : w_O} {k n : Nat} {S : List w_SC} {I : w_I} {L : w_L} {ls : List (Nat × Value)} {st : List Value} (pc : Nat) {index : Nat} {v : Int32} (hw : Cond.constant M.1 index v ∈ w_tb) (d : decode M.2.2.1 pc = .ok (.ldc index, 2)) (h : V M E Ω k n S I L (pc + 2) ls (.int v :: st)) : V M E Ω k n S I L pc ls (st) := by
  intro p e s m args below meth c H lr locs C hm hn hc hR hS hl
  exact lv_ldc C.1 C.2.1 C.2.2.2.1 (C.2.2.2.2 _ hw) d (h p e s m args below meth c H lr locs C hm hn hc hR hS hl)
theorem V_ldc2 {M : w_M} {E : w_E} {Ω : w_O} {k n : Nat} {S : List w_SC} {I : w_I} {L : w_L} {ls : List (Nat × Value)} {st : List Value} (pc : Nat) {index : Nat} {v : Int64} (hw : Cond.constantLong M.1 index v ∈ w_tb) (d : decode M.2.2.1 pc = .ok (.ldc2_w index, 3)) (h : V M E Ω k n S I L (pc + 3) ls (.long v :: st)) : V M E Ω k n S I L pc ls (st) := by
  intro p e s m args below meth c H lr locs C hm hn hc hR hS hl
  exact lv_ldc2 C.1 C.2.1 C.2.2.2.1 (C.2.2.2.2 _ hw) d (h p e s m args below meth c H lr locs C hm hn hc hR hS hl)
theorem V_iload_n {M : w_M} {E : w_E} {Ω : w_O} {k n : Nat} {S : List w_SC} {I : w_I} {L : w_L} {ls : List (Nat × Value)} {st : List Value} (pc : Nat) (j : Nat) {q : Fin 4} {x : Int32} (d : decode M.2.2.1 pc = .ok (.iload_n q, 1)) (hk : ls[j]? = some ((q : Nat), .int x)) (h : V M E Ω k n S I L (pc + 1) ls (.int x :: st)) : V M E Ω k n S I L pc ls (st) := by
  intro p e s m args below meth c H lr locs C hm hn hc hR hS hl
  exact lv_iload_n C.1 C.2.1 d rfl (lv_at hl j hk) (h p e s m args below meth c H lr locs C hm hn hc hR hS hl)
theorem V_iload {M : w_M} {E : w_E} {Ω : w_O} {k n : Nat} {S : List w_SC} {I : w_I} {L : w_L} {ls : List (Nat × Value)} {st : List Value} (pc : Nat) (j : Nat) {i : Nat} {x : Int32} (d : decode M.2.2.1 pc = .ok (.iload i, 2)) (hk : ls[j]? = some (i, .int x)) (h : V M E Ω k n S I L (pc + 2) ls (.int x :: st)) : V M E Ω k n S I L pc ls (st) := by
  intro p e s m args below meth c H lr locs C hm hn hc hR hS hl
  exact lv_iload C.1 C.2.1 d (lv_at hl j hk) (h p e s m args below meth c H lr locs C hm hn hc hR hS hl)
theorem V_lload_n {M : w_M} {E : w_E} {Ω : w_O} {k n : Nat} {S : List w_SC} {I : w_I} {L : w_L} {ls : List (Nat × Value)} {st : List Value} (pc : Nat) (j : Nat) {q : Fin 4} {x : Int64} (d : decode M.2.2.1 pc = .ok (.lload_n q, 1)) (hk : ls[j]? = some ((q : Nat), .long x)) (h : V M E Ω k n S I L (pc + 1) ls (.long x :: st)) : V M E Ω k n S I L pc ls (st) := by
  intro p e s m args below meth c H lr locs C hm hn hc hR hS hl
  exact lv_lload_n C.1 C.2.1 d rfl (lv_at hl j hk) (h p e s m args below meth c H lr locs C hm hn hc hR hS hl)
theorem V_lload {M : w_M} {E : w_E} {Ω : w_O} {k n : Nat} {S : List w_SC} {I : w_I} {L : w_L} {ls : List (Nat × Value)} {st : List Value} (pc : Nat) (j : Nat) {i : Nat} {x : Int64} (d : decode M.2.2.1 pc = .ok (.lload i, 2)) (hk : ls[j]? = some (i, .long x)) (h : V M E Ω k n S I L (pc + 2) ls (.long x :: st)) : V M E Ω k n S I L pc ls (st) := by
  intro p e s m args below meth c H lr locs C hm hn hc hR hS hl
  exact lv_lload C.1 C.2.1 d (lv_at hl j hk) (h p e s m args below meth c H lr locs C hm hn hc hR hS hl)
theorem V_aload_n {M : w_M} {E : w_E} {Ω : w_O} {k n : Nat} {S : List w_SC} {I : w_I} {L : w_L} {ls : List (Nat × Value)} {st : List Value} (pc : Nat) (j : Nat) {q : Fin 4} {x : Nat} (d : decode M.2.2.1 pc = .ok (.aload_n q, 1)) (hk : ls[j]? = some ((q : Nat), .ref x)) (h : V M E Ω k n S I L (pc + 1) ls (.ref x :: st)) : V M E Ω k n S I L pc ls (st) := by
  intro p e s m args below meth c H lr locs C hm hn hc hR hS hl
  exact lv_aload_n C.1 C.2.1 d rfl (lv_at hl j hk) (h p e s m args below meth c H lr locs C hm hn hc hR hS hl)
theorem V_aload {M : w_M} {E : w_E} {Ω : w_O} {k n : Nat} {S : List w_SC} {I : w_I} {L : w_L} {ls : List (Nat × Value)} {st : List Value} (pc : Nat) (j : Nat) {i : Nat} {x : Nat} (d : decode M.2.2.1 pc = .ok (.aload i, 2)) (hk : ls[j]? = some (i, .ref x)) (h : V M E Ω k n S I L (pc + 2) ls (.ref x :: st)) : V M E Ω k n S I L pc ls (st) := by
  intro p e s m args below meth c H lr locs C hm hn hc hR hS hl
  exact lv_aload C.1 C.2.1 d (lv_at hl j hk) (h p e s m args below meth c H lr locs C hm hn hc hR hS hl)
/-- a local is set: the list of locals stays in the order of the places; a long of two places that is hit is gone -/
def w_st (ls : List (Nat × Value)) (i : Nat) (v : Value) : List (Nat × Value) := ls.filter (fun q => Nat.blt q.1 i && !(Nat.beq (q.1 + 1) i && Nat.beq q.2.category 2)) ++ (i, v) :: ls.filter (fun q => Nat.blt i q.1)
def w_st2 (ls : List (Nat × Value)) (i : Nat) (v : Value) : List (Nat × Value) := ls.filter (fun q => Nat.blt q.1 i && !(Nat.beq (q.1 + 1) i && Nat.beq q.2.category 2)) ++ (i, v) :: ls.filter (fun q => Nat.blt (i + 1) q.1)
theorem w_st_has {lr : Array Slot} {nL : Nat} {ls : List (Nat × Value)} {i : Nat} {v : Value} (h : lv_has lr nL ((i, v) :: ls.filter (fun q => !(q.1 == i) && !(q.1 + 1 == i && q.2.category == 2)))) : lv_has lr nL (w_st ls i v) := by
  refine ⟨h.1, h.2.1, fun q hq => h.2.2 q ?_⟩
  rcases List.mem_append.mp hq with h1 | h1
  · obtain ⟨h2, h3⟩ := List.mem_filter.mp h1
    refine List.mem_cons_of_mem _ (List.mem_filter.mpr ⟨h2, ?_⟩)
    simp only [Bool.and_eq_true, Nat.blt_eq, Bool.not_eq_true', Bool.and_eq_false_iff] at h3
    have : q.1 ≠ i := by omega
    rcases h3.2 with h4 | h4
    · have h5 : q.1 + 1 ≠ i := fun e => by rw [e, Nat.beq_refl] at h4; cases h4
      simp [this, h5]
    · have h5 : q.2.category ≠ 2 := fun e => by rw [e] at h4; cases h4
      simp [this, h5]
  · rcases List.mem_cons.mp h1 with h2 | h2
    · exact h2 ▸ List.mem_cons_self
    · obtain ⟨h3, h4⟩ := List.mem_filter.mp h2
      have h4 : i < q.1 := by simpa [Nat.blt_eq] using h4
      refine List.mem_cons_of_mem _ (List.mem_filter.mpr ⟨h3, ?_⟩)
      have h5 : q.1 ≠ i := by omega
      have h6 : q.1 + 1 ≠ i := by omega
      simp [h5, h6]
theorem w_st2_has {lr : Array Slot} {nL : Nat} {ls : List (Nat × Value)} {i : Nat} {v : Value} (h : lv_has lr nL ((i, v) :: ls.filter (fun q => !(q.1 == i) && (!(q.1 == i + 1) && !(q.1 + 1 == i && q.2.category == 2))))) : lv_has lr nL (w_st2 ls i v) := by
  refine ⟨h.1, h.2.1, fun q hq => h.2.2 q ?_⟩
  rcases List.mem_append.mp hq with h1 | h1
  · obtain ⟨h2, h3⟩ := List.mem_filter.mp h1
    refine List.mem_cons_of_mem _ (List.mem_filter.mpr ⟨h2, ?_⟩)
    simp only [Bool.and_eq_true, Nat.blt_eq, Bool.not_eq_true', Bool.and_eq_false_iff] at h3
    have : q.1 ≠ i := by omega
    have h7 : q.1 ≠ i + 1 := by omega
    rcases h3.2 with h4 | h4
    · have h5 : q.1 + 1 ≠ i := fun e => by rw [e, Nat.beq_refl] at h4; cases h4
      simp [this, h5, h7]
    · have h5 : q.2.category ≠ 2 := fun e => by rw [e] at h4; cases h4
      simp [this, h5, h7]
  · rcases List.mem_cons.mp h1 with h2 | h2
    · exact h2 ▸ List.mem_cons_self
    · obtain ⟨h3, h4⟩ := List.mem_filter.mp h2
      have h4 : i + 1 < q.1 := by simpa [Nat.blt_eq] using h4
      refine List.mem_cons_of_mem _ (List.mem_filter.mpr ⟨h3, ?_⟩)
      have h5 : q.1 ≠ i := by omega
      have h6 : q.1 + 1 ≠ i := by omega
      have h7 : q.1 ≠ i + 1 := by omega
      simp [h5, h6, h7]
theorem V_istore_n {M : w_M} {E : w_E} {Ω : w_O} {k n : Nat} {S : List w_SC} {I : w_I} {L : w_L} {ls : List (Nat × Value)} {st : List Value} (pc : Nat) (ls' : List (Nat × Value)) {q : Fin 4} {x : Int32} (d : decode M.2.2.1 pc = .ok (.istore_n q, 1)) (hi : (q : Nat) < M.2.2.2.1) (hs : w_st ls (q : Nat) (.int x) = ls') (h : V M E Ω k n S I L (pc + 1) ls' (st)) : V M E Ω k n S I L pc ls (.int x :: st) := by
  intro p e s m args below meth c H lr locs C hm hn hc hR hS hl
  subst hs
  exact lv_istore_n C.1 C.2.1 d rfl hl hi rfl (fun lr2 hl2 => h p e s m args below meth c H lr2 locs C hm hn hc hR hS (w_st_has hl2))
theorem V_istore {M : w_M} {E : w_E} {Ω : w_O} {k n : Nat} {S : List w_SC} {I : w_I} {L : w_L} {ls : List (Nat × Value)} {st : List Value} (pc : Nat) (ls' : List (Nat × Value)) {i : Nat} {x : Int32} (d : decode M.2.2.1 pc = .ok (.istore i, 2)) (hi : i < M.2.2.2.1) (hs : w_st ls i (.int x) = ls') (h : V M E Ω k n S I L (pc + 2) ls' (st)) : V M E Ω k n S I L pc ls (.int x :: st) := by
  intro p e s m args below meth c H lr locs C hm hn hc hR hS hl
  subst hs
  exact lv_istore C.1 C.2.1 d hl hi rfl (fun lr2 hl2 => h p e s m args below meth c H lr2 locs C hm hn hc hR hS (w_st_has hl2))
theorem V_astore_n {M : w_M} {E : w_E} {Ω : w_O} {k n : Nat} {S : List w_SC} {I : w_I} {L : w_L} {ls : List (Nat × Value)} {st : List Value} (pc : Nat) (ls' : List (Nat × Value)) {q : Fin 4} {x : Nat} (d : decode M.2.2.1 pc = .ok (.astore_n q, 1)) (hi : (q : Nat) < M.2.2.2.1) (hs : w_st ls (q : Nat) (.ref x) = ls') (h : V M E Ω k n S I L (pc + 1) ls' (st)) : V M E Ω k n S I L pc ls (.ref x :: st) := by
  intro p e s m args below meth c H lr locs C hm hn hc hR hS hl
  subst hs
  exact lv_astore_n C.1 C.2.1 d rfl hl hi rfl (fun lr2 hl2 => h p e s m args below meth c H lr2 locs C hm hn hc hR hS (w_st_has hl2))
theorem V_astore {M : w_M} {E : w_E} {Ω : w_O} {k n : Nat} {S : List w_SC} {I : w_I} {L : w_L} {ls : List (Nat × Value)} {st : List Value} (pc : Nat) (ls' : List (Nat × Value)) {i : Nat} {x : Nat} (d : decode M.2.2.1 pc = .ok (.astore i, 2)) (hi : i < M.2.2.2.1) (hs : w_st ls i (.ref x) = ls') (h : V M E Ω k n S I L (pc + 2) ls' (st)) : V M E Ω k n S I L pc ls (.ref x :: st) := by
  intro p e s m args below meth c H lr locs C hm hn hc hR hS hl
  subst hs
  exact lv_astore C.1 C.2.1 d hl hi rfl (fun lr2 hl2 => h p e s m args below meth c H lr2 locs C hm hn hc hR hS (w_st_has hl2))
theorem V_lstore_n {M : w_M} {E : w_E} {Ω : w_O} {k n : Nat} {S : List w_SC} {I : w_I} {L : w_L} {ls : List (Nat × Value)} {st : List Value} (pc : Nat) (ls' : List (Nat × Value)) {q : Fin 4} {x : Int64} (d : decode M.2.2.1 pc = .ok (.lstore_n q, 1)) (hi : (q : Nat) + 1 < M.2.2.2.1) (hs : w_st2 ls (q : Nat) (.long x) = ls') (h : V M E Ω k n S I L (pc + 1) ls' (st)) : V M E Ω k n S I L pc ls (.long x :: st) := by
  intro p e s m args below meth c H lr locs C hm hn hc hR hS hl
  subst hs
  exact lv_lstore_n C.1 C.2.1 d rfl hl hi rfl (fun lr2 hl2 => h p e s m args below meth c H lr2 locs C hm hn hc hR hS (w_st2_has hl2))
theorem V_lstore {M : w_M} {E : w_E} {Ω : w_O} {k n : Nat} {S : List w_SC} {I : w_I} {L : w_L} {ls : List (Nat × Value)} {st : List Value} (pc : Nat) (ls' : List (Nat × Value)) {i : Nat} {x : Int64} (d : decode M.2.2.1 pc = .ok (.lstore i, 2)) (hi : i + 1 < M.2.2.2.1) (hs : w_st2 ls i (.long x) = ls') (h : V M E Ω k n S I L (pc + 2) ls' (st)) : V M E Ω k n S I L pc ls (.long x :: st) := by
  intro p e s m args below meth c H lr locs C hm hn hc hR hS hl
  subst hs
  exact lv_lstore C.1 C.2.1 d hl hi rfl (fun lr2 hl2 => h p e s m args below meth c H lr2 locs C hm hn hc hR hS (w_st2_has hl2))
theorem V_iinc {M : w_M} {E : w_E} {Ω : w_O} {k n : Nat} {S : List w_SC} {I : w_I} {L : w_L} {ls : List (Nat × Value)} {st : List Value} (pc : Nat) (j : Nat) (v : Int32) (ls' : List (Nat × Value)) {i : Nat} {q : Int} {x : Int32} (d : decode M.2.2.1 pc = .ok (.iinc i q, 3)) (hk : ls[j]? = some (i, .int x)) (hv : x + Int32.ofInt q = v) (hi : i < M.2.2.2.1) (hs : w_st ls i (.int v) = ls') (h : V M E Ω k n S I L (pc + 3) ls' (st)) : V M E Ω k n S I L pc ls (st) := by
  intro p e s m args below meth c H lr locs C hm hn hc hR hS hl
  subst hs
  exact lv_iinc C.1 C.2.1 d hl hk hv hi rfl (fun lr2 hl2 => h p e s m args below meth c H lr2 locs C hm hn hc hR hS (w_st_has hl2))
theorem V_iadd {M : w_M} {E : w_E} {Ω : w_O} {k n : Nat} {S : List w_SC} {I : w_I} {L : w_L} {ls : List (Nat × Value)} {st : List Value} (pc : Nat) {x y : Int32} (d : decode M.2.2.1 pc = .ok (.iadd, 1)) (h : V M E Ω k n S I L (pc + 1) ls (.int (x + y) :: st)) : V M E Ω k n S I L pc ls (.int y :: .int x :: st) := by
  intro p e s m args below meth c H lr locs C hm hn hc hR hS hl
  exact lv_iadd C.1 C.2.1 d (h p e s m args below meth c H lr locs C hm hn hc hR hS hl)
theorem V_isub {M : w_M} {E : w_E} {Ω : w_O} {k n : Nat} {S : List w_SC} {I : w_I} {L : w_L} {ls : List (Nat × Value)} {st : List Value} (pc : Nat) {x y : Int32} (d : decode M.2.2.1 pc = .ok (.isub, 1)) (h : V M E Ω k n S I L (pc + 1) ls (.int (x - y) :: st)) : V M E Ω k n S I L pc ls (.int y :: .int x :: st) := by
  intro p e s m args below meth c H lr locs C hm hn hc hR hS hl
  exact lv_isub C.1 C.2.1 d (h p e s m args below meth c H lr locs C hm hn hc hR hS hl)
theorem V_imul {M : w_M} {E : w_E} {Ω : w_O} {k n : Nat} {S : List w_SC} {I : w_I} {L : w_L} {ls : List (Nat × Value)} {st : List Value} (pc : Nat) {x y : Int32} (d : decode M.2.2.1 pc = .ok (.imul, 1)) (h : V M E Ω k n S I L (pc + 1) ls (.int (x * y) :: st)) : V M E Ω k n S I L pc ls (.int y :: .int x :: st) := by
  intro p e s m args below meth c H lr locs C hm hn hc hR hS hl
  exact lv_imul C.1 C.2.1 d (h p e s m args below meth c H lr locs C hm hn hc hR hS hl)
theorem V_iand {M : w_M} {E : w_E} {Ω : w_O} {k n : Nat} {S : List w_SC} {I : w_I} {L : w_L} {ls : List (Nat × Value)} {st : List Value} (pc : Nat) {x y : Int32} (d : decode M.2.2.1 pc = .ok (.iand, 1)) (h : V M E Ω k n S I L (pc + 1) ls (.int (x &&& y) :: st)) : V M E Ω k n S I L pc ls (.int y :: .int x :: st) := by
  intro p e s m args below meth c H lr locs C hm hn hc hR hS hl
  exact lv_iand C.1 C.2.1 d (h p e s m args below meth c H lr locs C hm hn hc hR hS hl)
theorem V_ior {M : w_M} {E : w_E} {Ω : w_O} {k n : Nat} {S : List w_SC} {I : w_I} {L : w_L} {ls : List (Nat × Value)} {st : List Value} (pc : Nat) {x y : Int32} (d : decode M.2.2.1 pc = .ok (.ior, 1)) (h : V M E Ω k n S I L (pc + 1) ls (.int (x ||| y) :: st)) : V M E Ω k n S I L pc ls (.int y :: .int x :: st) := by
  intro p e s m args below meth c H lr locs C hm hn hc hR hS hl
  exact lv_ior C.1 C.2.1 d (h p e s m args below meth c H lr locs C hm hn hc hR hS hl)
theorem V_ixor {M : w_M} {E : w_E} {Ω : w_O} {k n : Nat} {S : List w_SC} {I : w_I} {L : w_L} {ls : List (Nat × Value)} {st : List Value} (pc : Nat) {x y : Int32} (d : decode M.2.2.1 pc = .ok (.ixor, 1)) (h : V M E Ω k n S I L (pc + 1) ls (.int (x ^^^ y) :: st)) : V M E Ω k n S I L pc ls (.int y :: .int x :: st) := by
  intro p e s m args below meth c H lr locs C hm hn hc hR hS hl
  exact lv_ixor C.1 C.2.1 d (h p e s m args below meth c H lr locs C hm hn hc hR hS hl)
theorem V_ishl {M : w_M} {E : w_E} {Ω : w_O} {k n : Nat} {S : List w_SC} {I : w_I} {L : w_L} {ls : List (Nat × Value)} {st : List Value} (pc : Nat) {x y : Int32} (d : decode M.2.2.1 pc = .ok (.ishl, 1)) (h : V M E Ω k n S I L (pc + 1) ls (.int (x <<< (y &&& 31)) :: st)) : V M E Ω k n S I L pc ls (.int y :: .int x :: st) := by
  intro p e s m args below meth c H lr locs C hm hn hc hR hS hl
  exact lv_ishl C.1 C.2.1 d (h p e s m args below meth c H lr locs C hm hn hc hR hS hl)
theorem V_ishr {M : w_M} {E : w_E} {Ω : w_O} {k n : Nat} {S : List w_SC} {I : w_I} {L : w_L} {ls : List (Nat × Value)} {st : List Value} (pc : Nat) {x y : Int32} (d : decode M.2.2.1 pc = .ok (.ishr, 1)) (h : V M E Ω k n S I L (pc + 1) ls (.int (x >>> (y &&& 31)) :: st)) : V M E Ω k n S I L pc ls (.int y :: .int x :: st) := by
  intro p e s m args below meth c H lr locs C hm hn hc hR hS hl
  exact lv_ishr C.1 C.2.1 d (h p e s m args below meth c H lr locs C hm hn hc hR hS hl)
theorem V_idiv {M : w_M} {E : w_E} {Ω : w_O} {k n : Nat} {S : List w_SC} {I : w_I} {L : w_L} {ls : List (Nat × Value)} {st : List Value} (pc : Nat) {x y : Int32} (d : decode M.2.2.1 pc = .ok (.idiv, 1)) (hy : ¬ y = 0) (h : V M E Ω k n S I L (pc + 1) ls (.int (x / y) :: st)) : V M E Ω k n S I L pc ls (.int y :: .int x :: st) := by
  intro p e s m args below meth c H lr locs C hm hn hc hR hS hl
  exact lv_idiv C.1 C.2.1 d hy (h p e s m args below meth c H lr locs C hm hn hc hR hS hl)
theorem V_irem {M : w_M} {E : w_E} {Ω : w_O} {k n : Nat} {S : List w_SC} {I : w_I} {L : w_L} {ls : List (Nat × Value)} {st : List Value} (pc : Nat) {x y : Int32} (d : decode M.2.2.1 pc = .ok (.irem, 1)) (hy : ¬ y = 0) (h : V M E Ω k n S I L (pc + 1) ls (.int (x - x / y * y) :: st)) : V M E Ω k n S I L pc ls (.int y :: .int x :: st) := by
  intro p e s m args below meth c H lr locs C hm hn hc hR hS hl
  exact lv_irem C.1 C.2.1 d hy (h p e s m args below meth c H lr locs C hm hn hc hR hS hl)
theorem V_ladd {M : w_M} {E : w_E} {Ω : w_O} {k n : Nat} {S : List w_SC} {I : w_I} {L : w_L} {ls : List (Nat × Value)} {st : List Value} (pc : Nat) {x y : Int64} (d : decode M.2.2.1 pc = .ok (.ladd, 1)) (h : V M E Ω k n S I L (pc + 1) ls (.long (x + y) :: st)) : V M E Ω k n S I L pc ls (.long y :: .long x :: st) := by
  intro p e s m args below meth c H lr locs C hm hn hc hR hS hl
  exact lv_ladd C.1 C.2.1 d (h p e s m args below meth c H lr locs C hm hn hc hR hS hl)
theorem V_land {M : w_M} {E : w_E} {Ω : w_O} {k n : Nat} {S : List w_SC} {I : w_I} {L : w_L} {ls : List (Nat × Value)} {st : List Value} (pc : Nat) {x y : Int64} (d : decode M.2.2.1 pc = .ok (.land, 1)) (h : V M E Ω k n S I L (pc + 1) ls (.long (x &&& y) :: st)) : V M E Ω k n S I L pc ls (.long y :: .long x :: st) := by
  intro p e s m args below meth c H lr locs C hm hn hc hR hS hl
  exact lv_land C.1 C.2.1 d (h p e s m args below meth c H lr locs C hm hn hc hR hS hl)
theorem V_iushr {M : w_M} {E : w_E} {Ω : w_O} {k n : Nat} {S : List w_SC} {I : w_I} {L : w_L} {ls : List (Nat × Value)} {st : List Value} (pc : Nat) {x y : Int32} (d : decode M.2.2.1 pc = .ok (.iushr, 1)) (h : V M E Ω k n S I L (pc + 1) ls (.int (x.toUInt32 >>> (y.toUInt32 &&& Int32.toUInt32 31)).toInt32 :: st)) : V M E Ω k n S I L pc ls (.int y :: .int x :: st) := by
  intro p e s m args below meth c H lr locs C hm hn hc hR hS hl
  exact lv_iushr C.1 C.2.1 d rfl (h p e s m args below meth c H lr locs C hm hn hc hR hS hl)
theorem V_lshl {M : w_M} {E : w_E} {Ω : w_O} {k n : Nat} {S : List w_SC} {I : w_I} {L : w_L} {ls : List (Nat × Value)} {st : List Value} (pc : Nat) {x : Int64} {y : Int32} (d : decode M.2.2.1 pc = .ok (.lshl, 1)) (h : V M E Ω k n S I L (pc + 1) ls (.long (x <<< (y.toInt64 &&& 63)) :: st)) : V M E Ω k n S I L pc ls (.int y :: .long x :: st) := by
  intro p e s m args below meth c H lr locs C hm hn hc hR hS hl
  exact lv_lshl C.1 C.2.1 d rfl (h p e s m args below meth c H lr locs C hm hn hc hR hS hl)
theorem V_lshr {M : w_M} {E : w_E} {Ω : w_O} {k n : Nat} {S : List w_SC} {I : w_I} {L : w_L} {ls : List (Nat × Value)} {st : List Value} (pc : Nat) {x : Int64} {y : Int32} (d : decode M.2.2.1 pc = .ok (.lshr, 1)) (h : V M E Ω k n S I L (pc + 1) ls (.long (x >>> (y.toInt64 &&& 63)) :: st)) : V M E Ω k n S I L pc ls (.int y :: .long x :: st) := by
  intro p e s m args below meth c H lr locs C hm hn hc hR hS hl
  exact lv_lshr C.1 C.2.1 d rfl (h p e s m args below meth c H lr locs C hm hn hc hR hS hl)
theorem V_i2l {M : w_M} {E : w_E} {Ω : w_O} {k n : Nat} {S : List w_SC} {I : w_I} {L : w_L} {ls : List (Nat × Value)} {st : List Value} (pc : Nat) {x : Int32} (d : decode M.2.2.1 pc = .ok (.i2l, 1)) (h : V M E Ω k n S I L (pc + 1) ls (.long (x.toInt64) :: st)) : V M E Ω k n S I L pc ls (.int x :: st) := by
  intro p e s m args below meth c H lr locs C hm hn hc hR hS hl
  exact lv_i2l C.1 C.2.1 d rfl (h p e s m args below meth c H lr locs C hm hn hc hR hS hl)
theorem V_l2i {M : w_M} {E : w_E} {Ω : w_O} {k n : Nat} {S : List w_SC} {I : w_I} {L : w_L} {ls : List (Nat × Value)} {st : List Value} (pc : Nat) {x : Int64} (d : decode M.2.2.1 pc = .ok (.l2i, 1)) (h : V M E Ω k n S I L (pc + 1) ls (.int (x.toInt32) :: st)) : V M E Ω k n S I L pc ls (.long x :: st) := by
  intro p e s m args below meth c H lr locs C hm hn hc hR hS hl
  exact lv_l2i C.1 C.2.1 d rfl (h p e s m args below meth c H lr locs C hm hn hc hR hS hl)
theorem V_i2b {M : w_M} {E : w_E} {Ω : w_O} {k n : Nat} {S : List w_SC} {I : w_I} {L : w_L} {ls : List (Nat × Value)} {st : List Value} (pc : Nat) {x : Int32} (d : decode M.2.2.1 pc = .ok (.i2b, 1)) (h : V M E Ω k n S I L (pc + 1) ls (.int (x.toInt8.toInt32) :: st)) : V M E Ω k n S I L pc ls (.int x :: st) := by
  intro p e s m args below meth c H lr locs C hm hn hc hR hS hl
  exact lv_i2b C.1 C.2.1 d rfl (h p e s m args below meth c H lr locs C hm hn hc hR hS hl)
theorem V_i2c {M : w_M} {E : w_E} {Ω : w_O} {k n : Nat} {S : List w_SC} {I : w_I} {L : w_L} {ls : List (Nat × Value)} {st : List Value} (pc : Nat) {x : Int32} (d : decode M.2.2.1 pc = .ok (.i2c, 1)) (h : V M E Ω k n S I L (pc + 1) ls (.int ((x.toUInt32 % 65536).toInt32) :: st)) : V M E Ω k n S I L pc ls (.int x :: st) := by
  intro p e s m args below meth c H lr locs C hm hn hc hR hS hl
  exact lv_i2c C.1 C.2.1 d rfl (h p e s m args below meth c H lr locs C hm hn hc hR hS hl)
theorem V_lcmp {M : w_M} {E : w_E} {Ω : w_O} {k n : Nat} {S : List w_SC} {I : w_I} {L : w_L} {ls : List (Nat × Value)} {st : List Value} (pc : Nat) {x y : Int64} (d : decode M.2.2.1 pc = .ok (.lcmp, 1)) (h : V M E Ω k n S I L (pc + 1) ls (.int (lg_cmp x y) :: st)) : V M E Ω k n S I L pc ls (.long y :: .long x :: st) := by
  intro p e s m args below meth c H lr locs C hm hn hc hR hS hl
  exact W.lcmp C.1 C.2.1 d (h p e s m args below meth c H lr locs C hm hn hc hR hS hl)
theorem V_dup {M : w_M} {E : w_E} {Ω : w_O} {k n : Nat} {S : List w_SC} {I : w_I} {L : w_L} {ls : List (Nat × Value)} {st : List Value} (pc : Nat) {v : Value} (d : decode M.2.2.1 pc = .ok (.dup, 1)) (hv : v.category = 1) (h : V M E Ω k n S I L (pc + 1) ls (v :: v :: st)) : V M E Ω k n S I L pc ls (v :: st) := by
  intro p e s m args below meth c H lr locs C hm hn hc hR hS hl
  exact lv_dup C.1 C.2.1 d hv (h p e s m args below meth c H lr locs C hm hn hc hR hS hl)
theorem V_pop {M : w_M} {E : w_E} {Ω : w_O} {k n : Nat} {S : List w_SC} {I : w_I} {L : w_L} {ls : List (Nat × Value)} {st : List Value} (pc : Nat) {v : Value} (d : decode M.2.2.1 pc = .ok (.pop, 1)) (hv : v.category = 1) (h : V M E Ω k n S I L (pc + 1) ls (st)) : V M E Ω k n S I L pc ls (v :: st) := by
  intro p e s m args below meth c H lr locs C hm hn hc hR hS hl
  exact lv_pop C.1 C.2.1 d hv (h p e s m args below meth c H lr locs C hm hn hc hR hS hl)
theorem V_dup2 {M : w_M} {E : w_E} {Ω : w_O} {k n : Nat} {S : List w_SC} {I : w_I} {L : w_L} {ls : List (Nat × Value)} {st : List Value} (pc : Nat) {v w : Value} (d : decode M.2.2.1 pc = .ok (.dup2, 1)) (hv : v.category = 1) (hw : w.category = 1) (h : V M E Ω k n S I L (pc + 1) ls (v :: w :: v :: w :: st)) : V M E Ω k n S I L pc ls (v :: w :: st) := by
  intro p e s m args below meth c H lr locs C hm hn hc hR hS hl
  exact lv_dup2_11 C.1 C.2.1 d hv hw (h p e s m args below meth c H lr locs C hm hn hc hR hS hl)
theorem V_icmp_eq {M : w_M} {E : w_E} {Ω : w_O} {k n : Nat} {S : List w_SC} {I : w_I} {L : w_L} {ls : List (Nat × Value)} {st : List Value} (pc tgt : Nat) {off : Int} {x y : Int32} (d : decode M.2.2.1 pc = .ok (.if_icmp .eq off, 3)) (ht : (pc : Int) + off = (tgt : Int)) (h1 : x = y → V M E Ω k n S I L tgt ls (st)) (h2 : ¬ (x = y) → V M E Ω k n S I L (pc + 3) ls (st)) : V M E Ω k n S I L pc ls (.int y :: .int x :: st) := by
  intro p e s m args below meth c H lr locs C hm hn hc hR hS hl
  exact lv_icmp_eq C.1 C.2.1 d ht (fun q => h1 q p e s m args below meth c H lr locs C hm hn hc hR hS hl) (fun q => h2 q p e s m args below meth c H lr locs C hm hn hc hR hS hl)
theorem V_if_eq {M : w_M} {E : w_E} {Ω : w_O} {k n : Nat} {S : List w_SC} {I : w_I} {L : w_L} {ls : List (Nat × Value)} {st : List Value} (pc tgt : Nat) {off : Int} {x : Int32} (d : decode M.2.2.1 pc = .ok (.ifCond .eq off, 3)) (ht : (pc : Int) + off = (tgt : Int)) (h1 : x = 0 → V M E Ω k n S I L tgt ls (st)) (h2 : ¬ (x = 0) → V M E Ω k n S I L (pc + 3) ls (st)) : V M E Ω k n S I L pc ls (.int x :: st) := by
  intro p e s m args below meth c H lr locs C hm hn hc hR hS hl
  exact lv_if_eq C.1 C.2.1 d ht (fun q => h1 q p e s m args below meth c H lr locs C hm hn hc hR hS hl) (fun q => h2 q p e s m args below meth c H lr locs C hm hn hc hR hS hl)
theorem V_icmp_ne {M : w_M} {E : w_E} {Ω : w_O} {k n : Nat} {S : List w_SC} {I : w_I} {L : w_L} {ls : List (Nat × Value)} {st : List Value} (pc tgt : Nat) {off : Int} {x y : Int32} (d : decode M.2.2.1 pc = .ok (.if_icmp .ne off, 3)) (ht : (pc : Int) + off = (tgt : Int)) (h1 : ¬ x = y → V M E Ω k n S I L tgt ls (st)) (h2 : x = y → V M E Ω k n S I L (pc + 3) ls (st)) : V M E Ω k n S I L pc ls (.int y :: .int x :: st) := by
  intro p e s m args below meth c H lr locs C hm hn hc hR hS hl
  exact lv_icmp_ne C.1 C.2.1 d ht (fun q => h1 q p e s m args below meth c H lr locs C hm hn hc hR hS hl) (fun q => h2 q p e s m args below meth c H lr locs C hm hn hc hR hS hl)
theorem V_if_ne {M : w_M} {E : w_E} {Ω : w_O} {k n : Nat} {S : List w_SC} {I : w_I} {L : w_L} {ls : List (Nat × Value)} {st : List Value} (pc tgt : Nat) {off : Int} {x : Int32} (d : decode M.2.2.1 pc = .ok (.ifCond .ne off, 3)) (ht : (pc : Int) + off = (tgt : Int)) (h1 : ¬ x = 0 → V M E Ω k n S I L tgt ls (st)) (h2 : x = 0 → V M E Ω k n S I L (pc + 3) ls (st)) : V M E Ω k n S I L pc ls (.int x :: st) := by
  intro p e s m args below meth c H lr locs C hm hn hc hR hS hl
  exact lv_if_ne C.1 C.2.1 d ht (fun q => h1 q p e s m args below meth c H lr locs C hm hn hc hR hS hl) (fun q => h2 q p e s m args below meth c H lr locs C hm hn hc hR hS hl)
theorem V_icmp_lt {M : w_M} {E : w_E} {Ω : w_O} {k n : Nat} {S : List w_SC} {I : w_I} {L : w_L} {ls : List (Nat × Value)} {st : List Value} (pc tgt : Nat) {off : Int} {x y : Int32} (d : decode M.2.2.1 pc = .ok (.if_icmp .lt off, 3)) (ht : (pc : Int) + off = (tgt : Int)) (h1 : x < y → V M E Ω k n S I L tgt ls (st)) (h2 : ¬ (x < y) → V M E Ω k n S I L (pc + 3) ls (st)) : V M E Ω k n S I L pc ls (.int y :: .int x :: st) := by
  intro p e s m args below meth c H lr locs C hm hn hc hR hS hl
  exact lv_icmp_lt C.1 C.2.1 d ht (fun q => h1 q p e s m args below meth c H lr locs C hm hn hc hR hS hl) (fun q => h2 q p e s m args below meth c H lr locs C hm hn hc hR hS hl)
theorem V_if_lt {M : w_M} {E : w_E} {Ω : w_O} {k n : Nat} {S : List w_SC} {I : w_I} {L : w_L} {ls : List (Nat × Value)} {st : List Value} (pc tgt : Nat) {off : Int} {x : Int32} (d : decode M.2.2.1 pc = .ok (.ifCond .lt off, 3)) (ht : (pc : Int) + off = (tgt : Int)) (h1 : x < 0 → V M E Ω k n S I L tgt ls (st)) (h2 : ¬ (x < 0) → V M E Ω k n S I L (pc + 3) ls (st)) : V M E Ω k n S I L pc ls (.int x :: st) := by
  intro p e s m args below meth c H lr locs C hm hn hc hR hS hl
  exact lv_if_lt C.1 C.2.1 d ht (fun q => h1 q p e s m args below meth c H lr locs C hm hn hc hR hS hl) (fun q => h2 q p e s m args below meth c H lr locs C hm hn hc hR hS hl)
theorem V_icmp_ge {M : w_M} {E : w_E} {Ω : w_O} {k n : Nat} {S : List w_SC} {I : w_I} {L : w_L} {ls : List (Nat × Value)} {st : List Value} (pc tgt : Nat) {off : Int} {x y : Int32} (d : decode M.2.2.1 pc = .ok (.if_icmp .ge off, 3)) (ht : (pc : Int) + off = (tgt : Int)) (h1 : y ≤ x → V M E Ω k n S I L tgt ls (st)) (h2 : ¬ (y ≤ x) → V M E Ω k n S I L (pc + 3) ls (st)) : V M E Ω k n S I L pc ls (.int y :: .int x :: st) := by
  intro p e s m args below meth c H lr locs C hm hn hc hR hS hl
  exact lv_icmp_ge C.1 C.2.1 d ht (fun q => h1 q p e s m args below meth c H lr locs C hm hn hc hR hS hl) (fun q => h2 q p e s m args below meth c H lr locs C hm hn hc hR hS hl)
theorem V_if_ge {M : w_M} {E : w_E} {Ω : w_O} {k n : Nat} {S : List w_SC} {I : w_I} {L : w_L} {ls : List (Nat × Value)} {st : List Value} (pc tgt : Nat) {off : Int} {x : Int32} (d : decode M.2.2.1 pc = .ok (.ifCond .ge off, 3)) (ht : (pc : Int) + off = (tgt : Int)) (h1 : 0 ≤ x → V M E Ω k n S I L tgt ls (st)) (h2 : ¬ (0 ≤ x) → V M E Ω k n S I L (pc + 3) ls (st)) : V M E Ω k n S I L pc ls (.int x :: st) := by
  intro p e s m args below meth c H lr locs C hm hn hc hR hS hl
  exact lv_if_ge C.1 C.2.1 d ht (fun q => h1 q p e s m args below meth c H lr locs C hm hn hc hR hS hl) (fun q => h2 q p e s m args below meth c H lr locs C hm hn hc hR hS hl)
theorem V_icmp_gt {M : w_M} {E : w_E} {Ω : w_O} {k n : Nat} {S : List w_SC} {I : w_I} {L : w_L} {ls : List (Nat × Value)} {st : List Value} (pc tgt : Nat) {off : Int} {x y : Int32} (d : decode M.2.2.1 pc = .ok (.if_icmp .gt off, 3)) (ht : (pc : Int) + off = (tgt : Int)) (h1 : y < x → V M E Ω k n S I L tgt ls (st)) (h2 : ¬ (y < x) → V M E Ω k n S I L (pc + 3) ls (st)) : V M E Ω k n S I L pc ls (.int y :: .int x :: st) := by
  intro p e s m args below meth c H lr locs C hm hn hc hR hS hl
  exact lv_icmp_gt C.1 C.2.1 d ht (fun q => h1 q p e s m args below meth c H lr locs C hm hn hc hR hS hl) (fun q => h2 q p e s m args below meth c H lr locs C hm hn hc hR hS hl)
theorem V_if_gt {M : w_M} {E : w_E} {Ω : w_O} {k n : Nat} {S : List w_SC} {I : w_I} {L : w_L} {ls : List (Nat × Value)} {st : List Value} (pc tgt : Nat) {off : Int} {x : Int32} (d : decode M.2.2.1 pc = .ok (.ifCond .gt off, 3)) (ht : (pc : Int) + off = (tgt : Int)) (h1 : 0 < x → V M E Ω k n S I L tgt ls (st)) (h2 : ¬ (0 < x) → V M E Ω k n S I L (pc + 3) ls (st)) : V M E Ω k n S I L pc ls (.int x :: st) := by
  intro p e s m args below meth c H lr locs C hm hn hc hR hS hl
  exact lv_if_gt C.1 C.2.1 d ht (fun q => h1 q p e s m args below meth c H lr locs C hm hn hc hR hS hl) (fun q => h2 q p e s m args below meth c H lr locs C hm hn hc hR hS hl)
theorem V_icmp_le {M : w_M} {E : w_E} {Ω : w_O} {k n : Nat} {S : List w_SC} {I : w_I} {L : w_L} {ls : List (Nat × Value)} {st : List Value} (pc tgt : Nat) {off : Int} {x y : Int32} (d : decode M.2.2.1 pc = .ok (.if_icmp .le off, 3)) (ht : (pc : Int) + off = (tgt : Int)) (h1 : x ≤ y → V M E Ω k n S I L tgt ls (st)) (h2 : ¬ (x ≤ y) → V M E Ω k n S I L (pc + 3) ls (st)) : V M E Ω k n S I L pc ls (.int y :: .int x :: st) := by
  intro p e s m args below meth c H lr locs C hm hn hc hR hS hl
  exact lv_icmp_le C.1 C.2.1 d ht (fun q => h1 q p e s m args below meth c H lr locs C hm hn hc hR hS hl) (fun q => h2 q p e s m args below meth c H lr locs C hm hn hc hR hS hl)
theorem V_if_le {M : w_M} {E : w_E} {Ω : w_O} {k n : Nat} {S : List w_SC} {I : w_I} {L : w_L} {ls : List (Nat × Value)} {st : List Value} (pc tgt : Nat) {off : Int} {x : Int32} (d : decode M.2.2.1 pc = .ok (.ifCond .le off, 3)) (ht : (pc : Int) + off = (tgt : Int)) (h1 : x ≤ 0 → V M E Ω k n S I L tgt ls (st)) (h2 : ¬ (x ≤ 0) → V M E Ω k n S I L (pc + 3) ls (st)) : V M E Ω k n S I L pc ls (.int x :: st) := by
  intro p e s m args below meth c H lr locs C hm hn hc hR hS hl
  exact lv_if_le C.1 C.2.1 d ht (fun q => h1 q p e s m args below meth c H lr locs C hm hn hc hR hS hl) (fun q => h2 q p e s m args below meth c H lr locs C hm hn hc hR hS hl)
theorem V_goto {M : w_M} {E : w_E} {Ω : w_O} {k n : Nat} {S : List w_SC} {I : w_I} {L : w_L} {ls : List (Nat × Value)} {st : List Value} (pc tgt : Nat) {off : Int} (d : decode M.2.2.1 pc = .ok (.goto off, 3)) (ht : (pc : Int) + off = (tgt : Int)) (h : V M E Ω k n S I L tgt ls (st)) : V M E Ω k n S I L pc ls (st) := by
  intro p e s m args below meth c H lr locs C hm hn hc hR hS hl
  exact lv_goto C.1 C.2.1 d ht (h p e s m args below meth c H lr locs C hm hn hc hR hS hl)
theorem V_tabIn {M : w_M} {E : w_E} {Ω : w_O} {k n : Nat} {S : List w_SC} {I : w_I} {L : w_L} {ls : List (Nat × Value)} {st : List Value} (pc tgt : Nat) {dflt lo hi : Int} {offs : Array Int} {len : Nat} {x : Int32} {off : Int} (d : decode M.2.2.1 pc = .ok (.tableswitch dflt lo hi offs, len)) (h1 : ¬ x.toInt < lo) (h2 : ¬ hi < x.toInt) (ho : offs[(x.toInt - lo).toNat]? = some off) (ht : (pc : Int) + off = (tgt : Int)) (h : V M E Ω k n S I L tgt ls (st)) : V M E Ω k n S I L pc ls (.int x :: st) := by
  intro p e s m args below meth c H lr locs C hm hn hc hR hS hl
  exact lv_tableIn C.1 C.2.1 d h1 h2 ho ht (h p e s m args below meth c H lr locs C hm hn hc hR hS hl)
theorem V_tabOut {M : w_M} {E : w_E} {Ω : w_O} {k n : Nat} {S : List w_SC} {I : w_I} {L : w_L} {ls : List (Nat × Value)} {st : List Value} (pc tgt : Nat) {dflt lo hi : Int} {offs : Array Int} {len : Nat} {x : Int32} (d : decode M.2.2.1 pc = .ok (.tableswitch dflt lo hi offs, len)) (h1 : x.toInt < lo ∨ hi < x.toInt) (ht : (pc : Int) + dflt = (tgt : Int)) (h : V M E Ω k n S I L tgt ls (st)) : V M E Ω k n S I L pc ls (.int x :: st) := by
  intro p e s m args below meth c H lr locs C hm hn hc hR hS hl
  exact lv_tableOut C.1 C.2.1 d h1 ht (h p e s m args below meth c H lr locs C hm hn hc hR hS hl)
theorem V_sub {M : w_M} {E : w_E} {Ω : w_O} {k n : Nat} {S : List w_SC} {I : w_I} {L : w_L} {ls : List (Nat × Value)} {st : List Value} {pc : Nat} (ls' : List (Nat × Value)) (is : List Nat) (hs : lv_pick ls is = ls') (h : V M E Ω k n S I L pc ls' (st)) : V M E Ω k n S I L pc ls (st) := by
  intro p e s m args below meth c H lr locs C hm hn hc hR hS hl
  exact h p e s m args below meth c H lr locs C hm hn hc hR hS (lv_sub hl is hs)

