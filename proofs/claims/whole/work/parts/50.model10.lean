section
variable {Ω : w_O} {d u v : Nat} {L : w_L} {E : w_E} {P Y : w_R} {B : Nat → Nat} {I : w_I} {t : Nat}
/-- all that p leans on stands, of n promises from q on -/
def m_lB (P : w_R) (B : Nat → Nat) (p : Nat) (q n : Nat) : Bool := (List.range' q n).all (fun q => !(P 11 p).testBit q || B q == 1)
theorem lB_l {p : Nat} (ht : t < 3) (hP : s_POK P) (hp : p < P 6 0) (hMP : MP P I) (hB : ∀ q, B q < 3) (hM : ∀ q, q < P 6 0 → I 82 (12 * t + q) = B q) : ∀ (n q : Nat), q + n = P 6 0 →
    (m_lB P B p q n = true → ∀ x, V mX8_leansWell E Ω 0 0 (SH u v) I L 49 [(0, .ref (Ω.1 + 63)), (1, .int (nI t)), (2, .int (nI p)), (3, .int (nI x))] []) →
    (m_lB P B p q n = false → ∀ x, V mX8_leansWell E Ω 0 0 (SH u v) I L 41 [(0, .ref (Ω.1 + 63)), (1, .int (nI t)), (2, .int (nI p)), (3, .int (nI x))] []) →
    V mX8_leansWell E Ω 0 0 (SH u v) I L 2 [(0, .ref (Ω.1 + 63)), (1, .int (nI t)), (2, .int (nI p)), (3, .int (nI q))] [] := by
  have h12 := hP.2.2.2.2.1
  have hl := lean_lt hP hp
  intro n
  induction n with
  | zero =>
    intro q hq k1 k0
    refine V_iload_n 2 3 dX8_leansWell_2 rfl ?_
    refine V_aload_n 3 0 dX8_leansWell_3 rfl ?_
    refine V_getR 4 flX8_7 dX8_leansWell_4 rfl ?_
    refine V_cst 7 2 dX8_leansWell_7 rfl ?_
    refine V_iald 8 dX8_leansWell_8 rfl (by omega) (by omega) ?_
    rw [hMP.2.2.1]
    refine V_cN_ge 9 49 dX8_leansWell_9 (by decide) (by omega) (by omega) (fun c => ?_) (fun c => ?_)
    · exact k1 rfl q
    · omega
  | succ n ih =>
    intro q hq k1 k0
    have hs := hB q
    have e0 : m_lB P B p q (n + 1) = ((!(P 11 p).testBit q || B q == 1) && m_lB P B p (q + 1) n) := by
      unfold m_lB
      rw [List.range'_succ, List.all_cons]
    refine V_iload_n 2 3 dX8_leansWell_2 rfl ?_
    refine V_aload_n 3 0 dX8_leansWell_3 rfl ?_
    refine V_getR 4 flX8_7 dX8_leansWell_4 rfl ?_
    refine V_cst 7 2 dX8_leansWell_7 rfl ?_
    refine V_iald 8 dX8_leansWell_8 rfl (by omega) (by omega) ?_
    rw [hMP.2.2.1]
    refine V_cN_ge 9 49 dX8_leansWell_9 (by decide) (by omega) (by omega) (fun c => ?_) (fun c => ?_)
    · omega
    refine V_aload_n 12 0 dX8_leansWell_12 rfl ?_
    refine V_getR 13 flX8_37 dX8_leansWell_13 rfl ?_
    refine V_iload_n 16 2 dX8_leansWell_16 rfl ?_
    refine V_iald 17 dX8_leansWell_17 rfl (by omega) (by omega) ?_
    rw [(hMP.2.2.2.2.2 p hp).2.2.2.2]
    refine V_iload_n 18 3 dX8_leansWell_18 rfl ?_
    refine V_shr 19 dX8_leansWell_19 (by omega) (by omega) ?_
    refine V_cst 20 1 dX8_leansWell_20 rfl ?_
    refine V_and 21 dX8_leansWell_21 ?_
    refine V_cst 22 1 dX8_leansWell_22 rfl ?_
    have hbit : (P 11 p / 2 ^ q) &&& 1 < 2 := and_lt2 (by decide)
    refine V_cN_ne 23 43 dX8_leansWell_23 (by decide) (by omega) (by omega) (fun c1 => ?_) (fun c1 => ?_)
    · have e1 : (P 11 p).testBit q = false := by
        cases h : (P 11 p).testBit q
        · rfl
        · exfalso
          have := (bitN_iff (P 11 p) q).mpr h
          unfold bitN at this
          omega
      rw [e1] at e0
      refine V_inc 43 3 _ [(0, _), (1, _), (2, _), (3, _)] dX8_leansWell_43 rfl rfl rfl (by decide) rfl ?_
      refine V_goto 46 2 dX8_leansWell_46 (by decide) ?_
      exact ih (q + 1) (by omega) (fun h => k1 (by rw [e0, h]; rfl)) (fun h => k0 (by rw [e0, h]; rfl))
    have e1 : (P 11 p).testBit q = true := by
      apply (bitN_iff (P 11 p) q).mp
      unfold bitN
      omega
    rw [e1] at e0
    refine V_aload_n 26 0 dX8_leansWell_26 rfl ?_
    refine V_getR 27 flX8_68 dX8_leansWell_27 rfl ?_
    refine V_bip 30 12 dX8_leansWell_30 rfl ?_
    refine V_iload_n 32 1 dX8_leansWell_32 rfl ?_
    refine V_mul 33 dX8_leansWell_33 ?_
    refine V_iload_n 34 3 dX8_leansWell_34 rfl ?_
    refine V_add 35 dX8_leansWell_35 ?_
    refine V_iald 36 dX8_leansWell_36 rfl (by omega) (by omega) ?_
    refine V_cst 37 1 dX8_leansWell_37 rfl ?_
    rw [hM q (by omega)]
    refine V_cN_eq 38 43 dX8_leansWell_38 (by decide) (by omega) (by omega) (fun c2 => ?_) (fun c2 => ?_)
    · rw [c2] at e0
      refine V_inc 43 3 _ [(0, _), (1, _), (2, _), (3, _)] dX8_leansWell_43 rfl rfl rfl (by decide) rfl ?_
      refine V_goto 46 2 dX8_leansWell_46 (by decide) ?_
      exact ih (q + 1) (by omega) (fun h => k1 (by rw [e0, h]; rfl)) (fun h => k0 (by rw [e0, h]; rfl))
    · have e2 : (B q == 1) = false := beq_eq_false_iff_ne.mpr c2
      rw [e2] at e0
      exact k0 e0 q
theorem m_leansWellB {p : Nat} (ht : t < 3) (hP : s_POK P) (hp : p < P 6 0) (hMP : MP P I) (hB : ∀ q, B q < 3) (hM : ∀ q, q < P 6 0 → I 82 (12 * t + q) = B q) : FnI Ω d mX8_leansWell [.ref (Ω.1 + 63), .int (nI t), .int (nI p)] (SH u v) I L (fun r S' I' L' => r = nI (if m_lB P B p 0 (P 6 0) then 1 else 0) ∧ S' = SH u v ∧ I = I' ∧ L = L') := by
  refine FnR_of okX8_leansWell (Nat.le_of_ble_eq_true rfl) fun l z => ?_
  show V _ _ _ _ _ _ _ _ 0 [(0, _), (1, _), (2, _)] []
  refine V_cst 0 0 dX8_leansWell_0 rfl ?_
  refine V_istore_n 1 [(0, _), (1, _), (2, _), (3, _)] dX8_leansWell_1 (by decide) rfl ?_
  refine lB_l ht hP hp hMP hB hM (P 6 0) 0 (by omega) (fun h x => ?_) (fun h x => ?_)
  · refine V_cst 49 1 dX8_leansWell_49 rfl ?_
    exact V_zret 50 dX8_leansWell_50 rfl rfl ⟨by rw [h]; rfl, rfl, rfl, rfl⟩
  · refine V_cst 41 0 dX8_leansWell_41 rfl ?_
    exact V_zret 42 dX8_leansWell_42 rfl rfl ⟨by rw [h]; rfl, rfl, rfl, rfl⟩

/-! the class's dusk, promise by promise, is the model's -/
def d_C (P C : w_R) (j : Nat) : w_R := (List.range j).foldl (s_dusk1 P) C
def d_B (P C : w_R) (j p : Nat) : Nat := if p < j then q_st (d_C P C j) p else d_1 C p
theorem d_C_succ (P C : w_R) (j : Nat) : d_C P C (j + 1) = s_dusk1 P (d_C P C j) j := by unfold d_C; rw [List.range_succ, List.foldl_append]; rfl
theorem d_C_all {P C : w_R} {D : Nat → Prop} (hP : s_POK P) (hC : COK C) (hD : HD P D C) : ∀ j, j ≤ P 6 0 → COK (d_C P C j) ∧ HD P D (d_C P C j) ∧ d_C P C j 5 0 = C 5 0 ∧ ∀ q, j ≤ q → q < 32 → (d_C P C j 3 0).testBit q = (C 3 0).testBit q ∧ (d_C P C j 4 0).testBit q = (C 4 0).testBit q := by
  have h12 := hP.2.2.2.2.1
  intro j
  induction j with
  | zero => intro _; exact ⟨hC, hD, rfl, fun q _ _ => ⟨rfl, rfl⟩⟩
  | succ j ih =>
    intro hj
    obtain ⟨a, b, c, e⟩ := ih (by omega)
    rw [d_C_succ]
    refine ⟨s_dusk1_ok_34 a (by omega), b.dusk1 a, (dusk1_5 j).trans c, fun q h1 h2 => ?_⟩
    obtain ⟨e1, e2⟩ := e q (by omega) h2
    obtain ⟨f1, f2⟩ := dusk1_3 (P := P) (C := d_C P C j) (p := j) (q := q) a h2 (by omega)
    exact ⟨f1.trans e1, f2.trans e2⟩
end
