/-! the model's day -/
def MD (t : Nat) (P C : w_R) (I : w_I) : Prop := I 80 t = C 0 0 ∧ I 81 t = C 1 0 ∧ ∀ p, p < P 6 0 → I 82 (12 * t + p) = q_st C p ∧ I 83 (12 * t + p) = C 7 p ∧ I 84 (12 * t + p) = C 8 p ∧ I 85 (12 * t + p) = C 9 p ∧ I 86 p = if (C 5 0).testBit p then 1 else 0
/-- only the t-th course has changed (and what was said again) -/
def FrD (t : Nat) (I I' : w_I) : Prop := (∀ i, i < 80 ∨ 86 < i → I' i = I i) ∧ (∀ j, j ≠ t → I' 80 j = I 80 j ∧ I' 81 j = I 81 j) ∧ ∀ j, j < 12 * t ∨ 12 * t + 12 ≤ j → I' 82 j = I 82 j ∧ I' 83 j = I 83 j ∧ I' 84 j = I 84 j ∧ I' 85 j = I 85 j
theorem FrD.rf {t : Nat} {I : w_I} : FrD t I I := ⟨fun _ _ => rfl, fun _ _ => ⟨rfl, rfl⟩, fun _ _ => ⟨rfl, rfl, rfl, rfl⟩⟩
theorem FrD.trans {t : Nat} {I I' I'' : w_I} (h : FrD t I I') (h' : FrD t I' I'') : FrD t I I'' := ⟨fun i hi => (h'.1 i hi).trans (h.1 i hi), fun j hj => ⟨((h'.2.1 j hj).1).trans (h.2.1 j hj).1, ((h'.2.1 j hj).2).trans (h.2.1 j hj).2⟩, fun j hj => ⟨(h'.2.2 j hj).1.trans (h.2.2 j hj).1, (h'.2.2 j hj).2.1.trans (h.2.2 j hj).2.1, (h'.2.2 j hj).2.2.1.trans (h.2.2 j hj).2.2.1, (h'.2.2 j hj).2.2.2.trans (h.2.2 j hj).2.2.2⟩⟩
theorem FrD.put {t a j x : Nat} {I I' : w_I} (h : FrD t I I') (h1 : 82 ≤ a) (h2 : a ≤ 85) (hj : 12 * t ≤ j) (hj2 : j < 12 * t + 12) : FrD t I (w_put I' a j x) := by
  refine ⟨fun i hi => (w_put_ne I' i (by omega)).trans (h.1 i hi), fun q hq => ?_, fun q hq => ?_⟩
  · rw [w_put_ne I' 80 (by omega), w_put_ne I' 81 (by omega)]; exact h.2.1 q hq
  · rw [w_put_other I' (Or.inr (by omega)), w_put_other I' (Or.inr (by omega)), w_put_other I' (Or.inr (by omega)), w_put_other I' (Or.inr (by omega))]; exact h.2.2 q hq
theorem q_st_undo {C : w_R} {p q : Nat} (hC : COK C) (hq : q < 32) : q_st (s_undo C p) q = if q = p then 2 else q_st C q := by
  unfold q_st
  rw [s_undo_4, s_undo_3, Nat.testBit_or, Nat.testBit_and, tb_mI hq, tb_p]
  by_cases e : q = p
  · subst e; simp
  · have e2 : ¬ p = q := fun h => e h.symm
    simp [e, e2]
theorem q_st_of {C C' : w_R} (h3 : C' 3 0 = C 3 0) (h4 : C' 4 0 = C 4 0) (q : Nat) : q_st C' q = q_st C q := by unfold q_st; rw [h3, h4]
section
variable {Ω : w_O} {d u v : Nat} {L : w_L} {E : w_E} {P Y C : w_R} {I : w_I} {σ : w_Z} {t : Nat}
theorem m_undo {p : Nat} (ht : t < 3) (hP : s_POK P) (hp : p < P 6 0) (hC : COK C) (hM : MD t P C I) : FnV Ω d mX8_undo [.ref (Ω.1 + 63), .int (nI t), .int (nI p)] (SH u v) I L (fun S' I' L' => S' = SH u v ∧ L = L' ∧ MD t P (s_undo C p) I' ∧ FrD t I I') := by
  have h12 := hP.2.2.2.2.1
  obtain ⟨m0, m1, m2⟩ := hM
  refine FnR_of okX8_undo (Nat.le_of_ble_eq_true rfl) fun l z => ?_
  show V _ _ _ _ _ _ _ _ 0 [(0, _), (1, _), (2, _)] []
  refine V_aload_n 0 0 dX8_undo_0 rfl ?_
  refine V_getR 1 flX8_68 dX8_undo_1 rfl ?_
  refine V_bip 4 12 dX8_undo_4 rfl ?_
  refine V_iload_n 6 1 dX8_undo_6 rfl ?_
  refine V_mul 7 dX8_undo_7 ?_
  refine V_iload_n 8 2 dX8_undo_8 rfl ?_
  refine V_add 9 dX8_undo_9 ?_
  refine V_cst 10 2 dX8_undo_10 rfl ?_
  refine V_iast 11 dX8_undo_11 rfl (by omega) (by omega) ?_
  refine V_aload_n 12 0 dX8_undo_12 rfl ?_
  refine V_getR 13 flX8_71 dX8_undo_13 rfl ?_
  refine V_bip 16 12 dX8_undo_16 rfl ?_
  refine V_iload_n 18 1 dX8_undo_18 rfl ?_
  refine V_mul 19 dX8_undo_19 ?_
  refine V_iload_n 20 2 dX8_undo_20 rfl ?_
  refine V_add 21 dX8_undo_21 ?_
  refine V_aload_n 22 0 dX8_undo_22 rfl ?_
  refine V_getR 23 flX8_62 dX8_undo_23 rfl ?_
  refine V_iload_n 26 1 dX8_undo_26 rfl ?_
  refine V_iald 27 dX8_undo_27 rfl (by omega) (by omega) ?_
  rw [w_put_ne I 80 (by decide), m0]
  refine V_iast 28 dX8_undo_28 rfl (by omega) (by omega) ?_
  refine V_ret 29 dX8_undo_29 rfl ⟨rfl, rfl, ⟨?_, ?_, fun q hq => ?_⟩, (FrD.rf.put (by decide) (by decide) (by omega) (by omega)).put (by decide) (by decide) (by omega) (by omega)⟩
  · rw [w_put_ne _ _ (by decide), w_put_ne _ _ (by decide), m0, s_undo_at C p 0 0 (by decide) (by decide) (by decide) (by decide)]
  · rw [w_put_ne _ _ (by decide), w_put_ne _ _ (by decide), m1, s_undo_at C p 1 0 (by decide) (by decide) (by decide) (by decide)]
  · obtain ⟨a1, a2, a3, a4, a5⟩ := m2 q hq
    rw [q_st_undo hC (by omega), s_undo_at C p 8 q (by decide) (by decide) (by decide) (by decide), s_undo_at C p 9 q (by decide) (by decide) (by decide) (by decide), s_undo_at C p 5 0 (by decide) (by decide) (by decide) (by decide)]
    have e7 : s_undo C p 7 q = if q = p then C 0 0 else C 7 q := by
      unfold s_undo
      by_cases e : q = p <;> simp [w_put_eq, e]
    rw [e7]
    by_cases e : q = p
    · subst e
      simp only [w_put_eq]
      simp
      exact ⟨a3, a4, a5⟩
    · have e2 : ¬ (12 * t + q = 12 * t + p) := by omega
      simp only [w_put_eq, e, e2]
      simp
      exact ⟨a1, a2, a3, a4, a5⟩
/-- all that p leans on stands, of n promises from q on -/
def m_lw (P C : w_R) (p : Nat) (q n : Nat) : Bool := (List.range' q n).all (fun q => !(P 11 p).testBit q || q_st C q == 1)
theorem lw2_l {p : Nat} (ht : t < 3) (hP : s_POK P) (hp : p < P 6 0) (hMP : MP P I) (hM : ∀ q, q < P 6 0 → I 82 (12 * t + q) = q_st C q) : ∀ (n q : Nat), q + n = P 6 0 →
    (m_lw P C p q n = true → ∀ x, V mX8_leansWell E Ω 0 0 (SH u v) I L 49 [(0, .ref (Ω.1 + 63)), (1, .int (nI t)), (2, .int (nI p)), (3, .int (nI x))] []) →
    (m_lw P C p q n = false → ∀ x, V mX8_leansWell E Ω 0 0 (SH u v) I L 41 [(0, .ref (Ω.1 + 63)), (1, .int (nI t)), (2, .int (nI p)), (3, .int (nI x))] []) →
    V mX8_leansWell E Ω 0 0 (SH u v) I L 2 [(0, .ref (Ω.1 + 63)), (1, .int (nI t)), (2, .int (nI p)), (3, .int (nI q))] [] := by
  have h12 := hP.2.2.2.2.1
  have hl := lean_lt hP hp
  intro n
  induction n with
  | zero =>
    intro q hq k1 k0
    refine V_iload_n 2 3 dX8_leansWell_2 rfl ?_
    refine V_aload_n 3 0 dX8_leansWell_3 rfl ?_
    refine V_getR 4 flX8_7 dX8_leansWell_4 rfl ?_
    refine V_cst 7 2 dX8_leansWell_7 rfl ?_
    refine V_iald 8 dX8_leansWell_8 rfl (by omega) (by omega) ?_
    rw [hMP.2.2.1]
    refine V_cN_ge 9 49 dX8_leansWell_9 (by decide) (by omega) (by omega) (fun c => ?_) (fun c => ?_)
    · exact k1 rfl q
    · omega
  | succ n ih =>
    intro q hq k1 k0
    have hs := q_st_lt C q
    have e0 : m_lw P C p q (n + 1) = ((!(P 11 p).testBit q || q_st C q == 1) && m_lw P C p (q + 1) n) := by
      unfold m_lw
      rw [List.range'_succ, List.all_cons]
    refine V_iload_n 2 3 dX8_leansWell_2 rfl ?_
    refine V_aload_n 3 0 dX8_leansWell_3 rfl ?_
    refine V_getR 4 flX8_7 dX8_leansWell_4 rfl ?_
    refine V_cst 7 2 dX8_leansWell_7 rfl ?_
    refine V_iald 8 dX8_leansWell_8 rfl (by omega) (by omega) ?_
    rw [hMP.2.2.1]
    refine V_cN_ge 9 49 dX8_leansWell_9 (by decide) (by omega) (by omega) (fun c => ?_) (fun c => ?_)
    · omega
    refine V_aload_n 12 0 dX8_leansWell_12 rfl ?_
    refine V_getR 13 flX8_37 dX8_leansWell_13 rfl ?_
    refine V_iload_n 16 2 dX8_leansWell_16 rfl ?_
    refine V_iald 17 dX8_leansWell_17 rfl (by omega) (by omega) ?_
    rw [(hMP.2.2.2.2.2 p hp).2.2.2.2]
    refine V_iload_n 18 3 dX8_leansWell_18 rfl ?_
    refine V_shr 19 dX8_leansWell_19 (by omega) (by omega) ?_
    refine V_cst 20 1 dX8_leansWell_20 rfl ?_
    refine V_and 21 dX8_leansWell_21 ?_
    refine V_cst 22 1 dX8_leansWell_22 rfl ?_
    have hbit : (P 11 p / 2 ^ q) &&& 1 < 2 := and_lt2 (by decide)
    refine V_cN_ne 23 43 dX8_leansWell_23 (by decide) (by omega) (by omega) (fun c1 => ?_) (fun c1 => ?_)
    · have e1 : (P 11 p).testBit q = false := by
        cases h : (P 11 p).testBit q
        · rfl
        · exfalso
          have := (bitN_iff (P 11 p) q).mpr h
          unfold bitN at this
          omega
      rw [e1] at e0
      refine V_inc 43 3 _ [(0, _), (1, _), (2, _), (3, _)] dX8_leansWell_43 rfl rfl rfl (by decide) rfl ?_
      refine V_goto 46 2 dX8_leansWell_46 (by decide) ?_
      exact ih (q + 1) (by omega) (fun h => k1 (by rw [e0, h]; rfl)) (fun h => k0 (by rw [e0, h]; rfl))
    have e1 : (P 11 p).testBit q = true := by
      apply (bitN_iff (P 11 p) q).mp
      unfold bitN
      omega
    rw [e1] at e0
    refine V_aload_n 26 0 dX8_leansWell_26 rfl ?_
    refine V_getR 27 flX8_68 dX8_leansWell_27 rfl ?_
    refine V_bip 30 12 dX8_leansWell_30 rfl ?_
    refine V_iload_n 32 1 dX8_leansWell_32 rfl ?_
    refine V_mul 33 dX8_leansWell_33 ?_
    refine V_iload_n 34 3 dX8_leansWell_34 rfl ?_
    refine V_add 35 dX8_leansWell_35 ?_
    refine V_iald 36 dX8_leansWell_36 rfl (by omega) (by omega) ?_
    refine V_cst 37 1 dX8_leansWell_37 rfl ?_
    rw [hM q (by omega)]
    refine V_cN_eq 38 43 dX8_leansWell_38 (by decide) (by omega) (by omega) (fun c2 => ?_) (fun c2 => ?_)
    · rw [c2] at e0
      refine V_inc 43 3 _ [(0, _), (1, _), (2, _), (3, _)] dX8_leansWell_43 rfl rfl rfl (by decide) rfl ?_
      refine V_goto 46 2 dX8_leansWell_46 (by decide) ?_
      exact ih (q + 1) (by omega) (fun h => k1 (by rw [e0, h]; rfl)) (fun h => k0 (by rw [e0, h]; rfl))
    · have e2 : (q_st C q == 1) = false := beq_eq_false_iff_ne.mpr c2
      rw [e2] at e0
      exact k0 e0 q
theorem m_leansWell {p : Nat} (ht : t < 3) (hP : s_POK P) (hp : p < P 6 0) (hMP : MP P I) (hM : ∀ q, q < P 6 0 → I 82 (12 * t + q) = q_st C q) : FnI Ω d mX8_leansWell [.ref (Ω.1 + 63), .int (nI t), .int (nI p)] (SH u v) I L (fun r S' I' L' => r = nI (if m_lw P C p 0 (P 6 0) then 1 else 0) ∧ S' = SH u v ∧ I = I' ∧ L = L') := by
  refine FnR_of okX8_leansWell (Nat.le_of_ble_eq_true rfl) fun l z => ?_
  show V _ _ _ _ _ _ _ _ 0 [(0, _), (1, _), (2, _)] []
  refine V_cst 0 0 dX8_leansWell_0 rfl ?_
  refine V_istore_n 1 [(0, _), (1, _), (2, _), (3, _)] dX8_leansWell_1 (by decide) rfl ?_
  refine lw2_l ht hP hp hMP hM (P 6 0) 0 (by omega) (fun h x => ?_) (fun h x => ?_)
  · refine V_cst 49 1 dX8_leansWell_49 rfl ?_
    exact V_zret 50 dX8_leansWell_50 rfl rfl ⟨by rw [h]; rfl, rfl, rfl, rfl⟩
  · refine V_cst 41 0 dX8_leansWell_41 rfl ?_
    exact V_zret 42 dX8_leansWell_42 rfl rfl ⟨by rw [h]; rfl, rfl, rfl, rfl⟩
end
