/-! THE START: what the tables and the start's own words give -/
theorem st_in (i : Nat) {w : Cond} (h : lw_tbl[i]? = some w) : w ∈ lw_tbl := List.mem_of_getElem? h
theorem st_arr {args : Array Value} {s : State} {ty : FieldType} (h : (Cond.arrayClass ty).before args s = true) : ∃ cA, ArrOfT s cA ty ∧ s.vm.findClass ("[" ++ ty.toString) = some cA := by
  obtain ⟨cA, kA, comp, h1, h2, h3⟩ := Cond.arrayClass_spec h
  exact ⟨cA, fun n z => ⟨fun k h => (by cases h), kA, h2, comp, h3⟩, h1⟩
theorem st_K {args : Array Value} {s : State} (hts : ∀ w ∈ w_tb, w.before args s = true) : ∃ (D : va_G) (cA : Nat → ClassId), va_K D vwCl (w_tys cA) s := by
  have one : ∀ (ci N : Nat) (ks : List (Nat ⊕ Option Nat)), w_NC ci N ks → ∃ q : ClassId × (Nat → Nat), ∀ r, vwCl[ci]? = some r → u_Kn s r.1 r.2.1 r.2.2 q.1 q.2 := by
    intro ci N ks h
    obtain ⟨C, T, ty, e1, e2, -, e4, -⟩ := h
    obtain ⟨cC, iS, hK⟩ := u_known (n := N) hts e2 (hts _ e4)
    exact ⟨(cC, iS), fun r hr => by rw [e1] at hr; cases hr; exact hK⟩
  obtain ⟨q0, -⟩ := one _ _ _ w_nc0
  have all : ∀ ci : Nat, ∃ q : ClassId × (Nat → Nat), ∀ r, vwCl[ci]? = some r → u_Kn s r.1 r.2.1 r.2.2 q.1 q.2 := by
    intro ci
    match ci with
    | 0 => exact one _ _ _ w_nc0
    | 1 => exact one _ _ _ w_nc1
    | 2 => exact one _ _ _ w_nc2
    | 3 => exact one _ _ _ w_nc3
    | 4 => exact one _ _ _ w_nc4
    | 5 => exact one _ _ _ w_nc5
    | 6 => exact one _ _ _ w_nc6
    | 7 => exact one _ _ _ w_nc7
    | 8 => exact one _ _ _ w_nc8
    | n + 9 => exact ⟨q0, fun r hr => by simp [vwCl] at hr⟩
  obtain ⟨D, hD⟩ := Classical.axiomOfChoice all
  obtain ⟨c0, a0, b0⟩ := st_arr (ty := .int) (hts _ w_ar_int)
  obtain ⟨c1, a1, b1⟩ := st_arr (ty := .byte) (hts _ w_ar_byte)
  obtain ⟨c2, a2, b2⟩ := st_arr (ty := .boolean) (hts _ w_ar_boolean)
  obtain ⟨c3, a3, b3⟩ := st_arr (ty := .long) (hts _ w_ar_long)
  refine ⟨(fun c => (D c).1, fun c => (D c).2), fun k => if k = 0 then c0 else if k = 1 then c1 else if k = 2 then c2 else c3, fun c q hq => hD c q hq, fun k q hk => ?_⟩
  match k, hk with
  | 0, hk => cases hk; exact ⟨a0, b0⟩
  | 1, hk => cases hk; exact ⟨a1, b1⟩
  | 2, hk => cases hk; exact ⟨a2, b2⟩
  | 3, hk => cases hk; exact ⟨a3, b3⟩
  | n + 4, hk => simp [w_tys] at hk
theorem st_eqr {args : Array Value} {s : State} {t u : Term} {a : Nat} (h : (Cond.eq t u).before args s = true) (ht : t.eval args s none [] s = some (.ref a)) : u.eval args s none [] s = some (.ref a) := by
  cases hu : u.eval args s none [] s with
  | none => simp [Cond.before, Cond.holds, Cond.value, ht, hu] at h
  | some w =>
    cases w <;> simp [Cond.before, Cond.holds, Cond.value, ht, hu] at h ⊢
    exact h.symm
/-- the words' entries in the two classes that read -/
def st_rk : List Nat := [45, 58, 63, 71, 120, 122, 124]
def st_mk : List Nat := [216, 218, 219, 224, 210, 202, 214]
def st_tm (i : Nat) : Term := .string "DuskTown$Reader" (st_rk.getD i 0)
def st_cs : List Cond := flatC (Jvm.Cond.and given_1 narrow_1)
theorem st_c1 : ∀ i, i < 7 → Cond.exactly (st_tm i) "java/lang/String" ∈ st_cs := by decide +kernel
theorem st_c2 : ∀ i, i < 7 → Cond.eq (.field (st_tm i) "java/lang/String" "coder" "B") (.int 0) ∈ st_cs := by decide +kernel
theorem st_c3 : ∀ i, i < 7 → Cond.arrayOf (.field (st_tm i) "java/lang/String" "value" "[B") .byte ∈ st_cs := by decide +kernel
theorem st_c4 : ∀ i, i < 7 → Cond.eq (.length (.field (st_tm i) "java/lang/String" "value" "[B")) (.int (Int32.ofNat (w_txt.getD i []).length)) ∈ st_cs := by decide +kernel
theorem st_c5 : ∀ i, i < 7 → ∀ j, j < (w_txt.getD i []).length → Cond.eq (.elem (.field (st_tm i) "java/lang/String" "value" "[B") (.int (Int32.ofNat j))) (.int ((w_txt.getD i []).getD j 0)) ∈ st_cs := by decide +kernel
theorem st_c6 : ∀ i, i < 7 → Cond.eq (st_tm i) (.string "DuskTownModel" (st_mk.getD i 0)) ∈ st_cs := by decide +kernel
theorem st_c7 : ∀ q ∈ w_msgs, Cond.exactly (.string q.1 q.2.1) "java/lang/String" ∈ st_cs := by decide +kernel
theorem st_c8 : ∀ q ∈ w_lits, q.2.2.2 < 7 ∧ ((q.1 = "DuskTown$Reader" ∧ q.2.1 = st_rk.getD q.2.2.2 0) ∨ (q.1 = "DuskTownModel" ∧ q.2.1 = st_mk.getD q.2.2.2 0)) := by decide +kernel
theorem st_w1 : ∀ q ∈ w_lits, Cond.stringRef q.1 q.2.1 q.2.2.1 ∈ lw_tbl := by
  intro q hq
  simp only [w_lits, List.mem_cons, List.not_mem_nil, or_false] at hq
  rcases hq with rfl | rfl | rfl | rfl | rfl | rfl | rfl | rfl | rfl | rfl | rfl | rfl | rfl | rfl
  · exact st_in 560 (by decide +kernel)
  · exact st_in 629 (by decide +kernel)
  · exact st_in 638 (by decide +kernel)
  · exact st_in 651 (by decide +kernel)
  · exact st_in 656 (by decide +kernel)
  · exact st_in 665 (by decide +kernel)
  · exact st_in 670 (by decide +kernel)
  · exact st_in 1170 (by decide +kernel)
  · exact st_in 1185 (by decide +kernel)
  · exact st_in 1194 (by decide +kernel)
  · exact st_in 1199 (by decide +kernel)
  · exact st_in 1204 (by decide +kernel)
  · exact st_in 1209 (by decide +kernel)
  · exact st_in 1210 (by decide +kernel)
theorem st_w2 : ∀ q ∈ w_msgs, Cond.stringRef q.1 q.2.1 q.2.2 ∈ lw_tbl := by
  intro q hq
  simp only [w_msgs, List.mem_cons, List.not_mem_nil, or_false] at hq
  rcases hq with rfl | rfl | rfl | rfl | rfl | rfl | rfl | rfl | rfl | rfl | rfl | rfl | rfl | rfl | rfl
  · exact st_in 518 (by decide +kernel)
  · exact st_in 709 (by decide +kernel)
  · exact st_in 727 (by decide +kernel)
  · exact st_in 739 (by decide +kernel)
  · exact st_in 740 (by decide +kernel)
  · exact st_in 752 (by decide +kernel)
  · exact st_in 757 (by decide +kernel)
  · exact st_in 776 (by decide +kernel)
  · exact st_in 817 (by decide +kernel)
  · exact st_in 818 (by decide +kernel)
  · exact st_in 823 (by decide +kernel)
  · exact st_in 832 (by decide +kernel)
  · exact st_in 871 (by decide +kernel)
  · exact st_in 908 (by decide +kernel)
  · exact st_in 909 (by decide +kernel)
theorem st_str {args : Array Value} {s : State} {A : Nat → Prop} (hs : ∀ w ∈ st_cs, w.before args s = true) (hA : ∀ a : Nat, a < s.heap.size → ¬ A a) : ∃ wd : (Nat → Nat) × (Nat → Nat), ∀ i, i < 7 → (st_tm i).eval args s none [] s = some (.ref (wd.1 i)) ∧ va_O "java/lang/String" (wd.1 i) A s s.heap ∧ va_OF "java/lang/String" "coder" "B" (.int 0) (wd.1 i) A s s.heap ∧ va_OF "java/lang/String" "value" "[B" (.ref (wd.2 i)) (wd.1 i) A s s.heap ∧ va_T .byte (wd.2 i) ((w_txt.getD i []).length) (fun j => .int ((w_txt.getD i []).getD j 0)) A s s.heap := by
  have hN : ∀ i, i < 7 → (w_txt.getD i []).length < 2 ^ 31 := by decide +kernel
  have h0 : ∀ i : Nat, ∃ q : Nat × Nat, i < 7 → (st_tm i).eval args s none [] s = some (.ref q.1) ∧ va_O "java/lang/String" q.1 A s s.heap ∧ va_OF "java/lang/String" "coder" "B" (.int 0) q.1 A s s.heap ∧ va_OF "java/lang/String" "value" "[B" (.ref q.2) q.1 A s s.heap ∧ va_T .byte q.2 ((w_txt.getD i []).length) (fun j => .int ((w_txt.getD i []).getD j 0)) A s s.heap := by
    intro i
    by_cases hi : i < 7
    · obtain ⟨a, c, cA, kA, q1, q2, q3, q4, q5, q6, -⟩ := Cond.exactly_spec (args := args) (first := s) (o := none) (s := s) (idx := []) (t := st_tm i) (cls := "java/lang/String") (hs _ (st_c1 i hi))
      obtain ⟨t, ht, hT⟩ := va_Tof (f := fun j => .int ((w_txt.getD i []).getD j 0)) (A := A) (hN i hi) (hs _ (st_c3 i hi)) (va_eqt (hs _ (st_c4 i hi))) (fun j hj => va_eqt (hs _ (st_c5 i hi j hj))) hA
      exact ⟨(a, t), fun _ => ⟨q1, ⟨cA, q3, q5, by rw [q6]; exact q2, hA a (Array.getElem?_eq_some_iff.mp q3).1⟩, vk_OFof q1 (va_eqt (hs _ (st_c2 i hi))) hA, vk_OFof q1 ht hA, hT⟩⟩
    · exact ⟨(0, 0), fun h => absurd h hi⟩
  obtain ⟨ad, had⟩ := Classical.axiomOfChoice h0
  exact ⟨(fun i => (ad i).1, fun i => (ad i).2), fun i hi => had i hi⟩
theorem st_cst {s : State} {b len : Nat} {xs : Nat → Int32} (D : va_G) (cA : Nat → ClassId) (hlt : ∀ w ∈ lw_tbl, w.before #[Value.ref b] s = true) (hg : (Jvm.Cond.and given_1 narrow_1).before #[Value.ref b] s = true) (hX : va_X b len xs s s.heap) (hb : b < s.heap.size) : ∃ (wd : (Nat → Nat) × (Nat → Nat)) (dg : Nat), w_cst (s.heap.size, D, cA, (b, len, xs), wd, dg) s := by
  have hs : ∀ w ∈ st_cs, w.before #[Value.ref b] s = true := flat_of_before _ hg
  have hA : ∀ a : Nat, a < s.heap.size → ¬ (fun q : Nat => s.heap.size ≤ q) a := fun a h => Nat.not_le.mpr h
  obtain ⟨wd, hwd⟩ := st_str hs hA
  refine ⟨wd, 0, Nat.le_refl _, ⟨hX, hb⟩, fun i hi => (hwd i hi).2, fun q hq => ?_, fun q hq => ?_, ⟨trivial, trivial⟩, ⟨vx_Zqof (hlt _ (st_in 505 (by decide +kernel))) (hlt _ (st_in 65 (by decide +kernel))) (hs _ (by decide +kernel)) hA, vx_Zqof (hlt _ (st_in 507 (by decide +kernel))) (hlt _ (st_in 65 (by decide +kernel))) (hs _ (by decide +kernel)) hA⟩, ⟨va_Zof (hlt _ (st_in 574 (by decide +kernel))) (hlt _ (st_in 69 (by decide +kernel))) (va_eqt (hs _ (by decide +kernel))) hA, va_Zqof (hlt _ (st_in 590 (by decide +kernel))) (hlt _ (st_in 71 (by decide +kernel))) (hs _ (by decide +kernel)) hA⟩, fun x hx => ?_, fun q hq => ?_, fun q hq => ?_, va_Nc.of (hs _ (by decide +kernel))⟩
  · obtain ⟨h7, h | h⟩ := st_c8 q hq
    · refine vk_R.of (A := #[Value.ref b]) (hlt _ (st_w1 q hq)) ?_
      rw [h.1, h.2]
      exact (hwd _ h7).1
    · refine vk_R.of (A := #[Value.ref b]) (hlt _ (st_w1 q hq)) ?_
      rw [h.1, h.2]
      exact st_eqr (hs _ (st_c6 _ h7)) (hwd _ h7).1
  · obtain ⟨a, c, cA, kA, q1, -⟩ := Cond.exactly_spec (args := #[Value.ref b]) (first := s) (o := none) (s := s) (idx := []) (t := .string q.1 q.2.1) (cls := "java/lang/String") (hs _ (st_c7 q hq))
    exact ⟨a, vk_R.of (A := #[Value.ref b]) (hlt _ (st_w2 q hq)) q1⟩
  · simp only [w_decl, List.mem_cons, List.not_mem_nil, or_false] at hx
    rcases hx with rfl | rfl | rfl
    · exact va_Nw.of rfl (hlt _ (st_in 482 (by decide +kernel)))
    · exact va_Nw.of rfl (hlt _ (st_in 484 (by decide +kernel)))
    · exact va_Nw.of rfl (hlt _ (st_in 486 (by decide +kernel)))
  · simp only [w_cast, List.mem_cons, List.not_mem_nil, or_false] at hq
    rcases hq with rfl | rfl
    · exact va_Nw.of rfl (hlt _ (st_in 480 (by decide +kernel)))
    · exact va_Nw.of rfl (hlt _ (st_in 702 (by decide +kernel)))
  · simp only [w_nest, List.mem_cons, List.not_mem_nil, or_false] at hq
    rcases hq with rfl | rfl
    · exact va_Nw.of rfl (hlt _ (st_in 225 (by decide +kernel)))
    · exact va_Nw.of rfl (hlt _ (st_in 313 (by decide +kernel)))
