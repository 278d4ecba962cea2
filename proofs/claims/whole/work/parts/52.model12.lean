section
variable {Ω : w_O} {d u v : Nat} {L : w_L} {E : w_E} {P Y C : w_R} {t : Nat}
/-- undo, cell by cell -/
theorem m_undo0 {I : w_I} {p : Nat} (ht : t < 3) (hp : p < 12) : FnV Ω d mX8_undo [.ref (Ω.1 + 63), .int (nI t), .int (nI p)] (SH u v) I L (fun S' I' L' => S' = SH u v ∧ L = L' ∧ I' = w_put (w_put I 82 (12 * t + p) 2) 83 (12 * t + p) (I 80 t)) := by
  refine FnR_of okX8_undo (Nat.le_of_ble_eq_true rfl) fun l z => ?_
  show V _ _ _ _ _ _ _ _ 0 [(0, _), (1, _), (2, _)] []
  refine V_aload_n 0 0 dX8_undo_0 rfl ?_
  refine V_getR 1 flX8_68 dX8_undo_1 rfl ?_
  refine V_bip 4 12 dX8_undo_4 rfl ?_
  refine V_iload_n 6 1 dX8_undo_6 rfl ?_
  refine V_mul 7 dX8_undo_7 ?_
  refine V_iload_n 8 2 dX8_undo_8 rfl ?_
  refine V_add 9 dX8_undo_9 ?_
  refine V_cst 10 2 dX8_undo_10 rfl ?_
  refine V_iast 11 dX8_undo_11 rfl (by omega) (by omega) ?_
  refine V_aload_n 12 0 dX8_undo_12 rfl ?_
  refine V_getR 13 flX8_71 dX8_undo_13 rfl ?_
  refine V_bip 16 12 dX8_undo_16 rfl ?_
  refine V_iload_n 18 1 dX8_undo_18 rfl ?_
  refine V_mul 19 dX8_undo_19 ?_
  refine V_iload_n 20 2 dX8_undo_20 rfl ?_
  refine V_add 21 dX8_undo_21 ?_
  refine V_aload_n 22 0 dX8_undo_22 rfl ?_
  refine V_getR 23 flX8_62 dX8_undo_23 rfl ?_
  refine V_iload_n 26 1 dX8_undo_26 rfl ?_
  refine V_iald 27 dX8_undo_27 rfl (by omega) (by omega) ?_
  rw [w_put_ne I 80 (by decide)]
  refine V_iast 28 dX8_undo_28 rfl (by omega) (by omega) ?_
  exact V_ret 29 dX8_undo_29 rfl ⟨rfl, rfl, rfl⟩
/-- how many of the first j fall at once -/
def d_n1 (C : w_R) (j : Nat) : Nat := ((List.range j).filter (fun p => q_st C p == 1 && !(C 5 0).testBit p)).length
theorem d_n1_succ (C : w_R) (j : Nat) : d_n1 C (j + 1) = d_n1 C j + if q_st C j = 1 ∧ (C 5 0).testBit j = false then 1 else 0 := by
  unfold d_n1
  rw [List.range_succ, List.filter_append, List.length_append]
  congr 1
  by_cases h : q_st C j = 1 ∧ (C 5 0).testBit j = false
  · rw [if_pos h]; simp [h.1, h.2]
  · rw [if_neg h]
    by_cases h1 : q_st C j = 1
    · have h2 : (C 5 0).testBit j = true := by
        cases h3 : (C 5 0).testBit j
        · exact absurd ⟨h1, h3⟩ h
        · rfl
      simp [h1, h2]
    · simp [h1]
/-- the first pass, before promise j -/
def D1 (t : Nat) (P C : w_R) (j : Nat) (I : w_I) : Prop := I 80 t = C 0 0 ∧ I 81 t = C 1 0 ∧ ∀ q, q < P 6 0 → I 82 (12 * t + q) = (if q < j then d_1 C q else q_st C q) ∧ I 83 (12 * t + q) = (if q < j ∧ q_st C q = 1 ∧ (C 5 0).testBit q = false then C 0 0 else C 7 q) ∧ I 84 (12 * t + q) = C 8 q ∧ I 85 (12 * t + q) = C 9 q ∧ I 86 q = if (C 5 0).testBit q then 1 else 0
theorem dk1_l (hE : w_fit d E) (ht : t < 3) (hP : s_POK P) : ∀ (n j : Nat) (I : w_I), j + n = P 6 0 → MP P I → D1 t P C j I →
    (∀ I' x, D1 t P C (P 6 0) I' → FrD t I I' → V mX8_dusk E Ω 0 0 (SH u v) I' L 56 [(0, .ref (Ω.1 + 63)), (1, .int (nI t)), (2, .int (nI (d_n1 C (P 6 0)))), (3, .int (nI x))] []) →
    V mX8_dusk E Ω 0 0 (SH u v) I L 4 [(0, .ref (Ω.1 + 63)), (1, .int (nI t)), (2, .int (nI (d_n1 C j))), (3, .int (nI j))] [] := by
  have h12 := hP.2.2.2.2.1
  intro n
  induction n with
  | zero =>
    intro j I hj hMP hM hk
    have e : j = P 6 0 := by omega
    subst e
    refine V_iload_n 4 3 dX8_dusk_4 rfl ?_
    refine V_aload_n 5 0 dX8_dusk_5 rfl ?_
    refine V_getR 6 flX8_7 dX8_dusk_6 rfl ?_
    refine V_cst 9 2 dX8_dusk_9 rfl ?_
    refine V_iald 10 dX8_dusk_10 rfl (by omega) (by omega) ?_
    rw [hMP.2.2.1]
    refine V_cN_ge 11 56 dX8_dusk_11 (by decide) (by omega) (by omega) (fun c => ?_) (fun c => ?_)
    · exact hk I _ hM FrD.rf
    · omega
  | succ n ih =>
    intro j I hj hMP hM hk
    obtain ⟨m0, m1, m2⟩ := hM
    obtain ⟨a1, a2, a3, a4, a5⟩ := m2 j (by omega)
    rw [if_neg (Nat.lt_irrefl _)] at a1
    have hs := q_st_lt C j
    have hn := d_n1_succ C j
    have no : ¬ (q_st C j = 1 ∧ (C 5 0).testBit j = false) → V mX8_dusk E Ω 0 0 (SH u v) I L 50 [(0, .ref (Ω.1 + 63)), (1, .int (nI t)), (2, .int (nI (d_n1 C j))), (3, .int (nI j))] [] := by
      intro h
      have hn2 : d_n1 C (j + 1) = d_n1 C j := by rw [hn, if_neg h]; rfl
      refine V_inc 50 3 _ [(0, _), (1, _), (2, _), (3, _)] dX8_dusk_50 rfl rfl rfl (by decide) rfl ?_
      refine V_goto 53 4 dX8_dusk_53 (by decide) ?_
      rw [← hn2]
      refine ih (j + 1) I (by omega) hMP ⟨m0, m1, fun q hq => ?_⟩ hk
      obtain ⟨b1, b2, b3⟩ := m2 q hq
      by_cases e : q = j
      · subst e
        refine ⟨?_, ?_, b3⟩
        · rw [if_pos (by omega), a1]; unfold d_1; rw [if_neg h]
        · rw [b2, if_neg (fun w => absurd w.1 (Nat.lt_irrefl _)), if_neg (fun w => h w.2)]
      · refine ⟨?_, ?_, b3⟩
        · rw [b1]
          by_cases e2 : q < j
          · rw [if_pos e2, if_pos (by omega)]
          · rw [if_neg e2, if_neg (by omega)]
        · rw [b2]
          by_cases e2 : q < j
          · simp only [e2, show q < j + 1 by omega]
          · simp only [e2, show ¬ q < j + 1 by omega]
    refine V_iload_n 4 3 dX8_dusk_4 rfl ?_
    refine V_aload_n 5 0 dX8_dusk_5 rfl ?_
    refine V_getR 6 flX8_7 dX8_dusk_6 rfl ?_
    refine V_cst 9 2 dX8_dusk_9 rfl ?_
    refine V_iald 10 dX8_dusk_10 rfl (by omega) (by omega) ?_
    rw [hMP.2.2.1]
    refine V_cN_ge 11 56 dX8_dusk_11 (by decide) (by omega) (by omega) (fun c => ?_) (fun c => ?_)
    · omega
    refine V_aload_n 14 0 dX8_dusk_14 rfl ?_
    refine V_getR 15 flX8_68 dX8_dusk_15 rfl ?_
    refine V_bip 18 12 dX8_dusk_18 rfl ?_
    refine V_iload_n 20 1 dX8_dusk_20 rfl ?_
    refine V_mul 21 dX8_dusk_21 ?_
    refine V_iload_n 22 3 dX8_dusk_22 rfl ?_
    refine V_add 23 dX8_dusk_23 ?_
    refine V_iald 24 dX8_dusk_24 rfl (by omega) (by omega) ?_
    refine V_cst 25 1 dX8_dusk_25 rfl ?_
    rw [a1]
    refine V_cN_ne 26 50 dX8_dusk_26 (by decide) (by omega) (by omega) (fun c1 => ?_) (fun c1 => ?_)
    · exact no (fun h => c1 h.1)
    refine V_aload_n 29 0 dX8_dusk_29 rfl ?_
    refine V_getR 30 flX8_80 dX8_dusk_30 rfl ?_
    refine V_iload_n 33 3 dX8_dusk_33 rfl ?_
    refine V_zald 34 dX8_dusk_34 rfl (by omega) (by omega) ?_
    rw [a5]
    cases h5 : (C 5 0).testBit j
    · rw [h5] at hn
      rw [if_pos ⟨c1, rfl⟩] at hn
      rw [if_neg (by decide)]
      refine V_zN_eq 35 41 dX8_dusk_35 (by decide) (by omega) (fun c2 => ?_) (fun c2 => ?_)
      rotate_left
      · exact absurd rfl c2
      refine V_aload_n 41 0 dX8_dusk_41 rfl ?_
      refine V_iload_n 42 1 dX8_dusk_42 rfl ?_
      refine V_iload_n 43 3 dX8_dusk_43 rfl ?_
      refine V_vv 44 mvX8_265 dX8_dusk_44 ⟨_, _, _, rfl, rfl, rfl⟩ (w_fit.mono (by omega) hE) (m_undo0 (d := d) (p := j) ht (by omega)) rfl (Nat.le_of_ble_eq_true rfl) ?_
      rintro _ I1 _ ⟨rfl, rfl, k1⟩
      have hf : FrD t I I1 := by rw [k1]; exact (FrD.rf.put (by decide) (by decide) (by omega) (by omega)).put (by decide) (by decide) (by omega) (by omega)
      refine V_inc 47 2 _ [(0, _), (1, _), (2, _), (3, _)] dX8_dusk_47 rfl rfl rfl (by decide) rfl ?_
      refine V_inc 50 3 _ [(0, _), (1, _), (2, _), (3, _)] dX8_dusk_50 rfl rfl rfl (by decide) rfl ?_
      refine V_goto 53 4 dX8_dusk_53 (by decide) ?_
      rw [← hn]
      refine ih (j + 1) I1 (by omega) (hf.mp hMP) ⟨?_, ?_, fun q hq => ?_⟩ (fun I' x h1 h2 => hk I' x h1 (hf.trans h2))
      · rw [k1, w_put_ne _ _ (by decide), w_put_ne _ _ (by decide)]; exact m0
      · rw [k1, w_put_ne _ _ (by decide), w_put_ne _ _ (by decide)]; exact m1
      · obtain ⟨b1, b2, b3, b4, b5⟩ := m2 q hq
        rw [k1, m0]
        by_cases e : q = j
        · subst e
          have hd : d_1 C q = 2 := by unfold d_1; rw [if_pos ⟨c1, h5⟩]
          simp [w_put_eq, hd, c1, h5, b3, b4]
          rw [b5, h5]; rfl
        · have e3 : ¬ (12 * t + q = 12 * t + j) := by omega
          simp only [w_put_eq, e3, and_false, if_false, show ¬ (84 = 83) by decide, show ¬ (84 = 82) by decide, show ¬ (85 = 83) by decide, show ¬ (85 = 82) by decide, show ¬ (86 = 83) by decide, show ¬ (86 = 82) by decide, false_and]
          refine ⟨?_, ?_, b3, b4, b5⟩
          · rw [b1]
            by_cases e2 : q < j
            · rw [if_pos e2, if_pos (by omega)]
            · rw [if_neg e2, if_neg (by omega)]
          · rw [b2]
            by_cases e2 : q < j
            · simp only [e2, show q < j + 1 by omega]
            · simp only [e2, show ¬ q < j + 1 by omega]
    · rw [if_pos rfl]
      refine V_zN_eq 35 41 dX8_dusk_35 (by decide) (by omega) (fun c2 => ?_) (fun c2 => ?_)
      · exact absurd c2 (by decide)
      refine V_goto 38 50 dX8_dusk_38 (by decide) ?_
      exact no (fun h => by rw [h5] at h; exact absurd h.2 (by decide))
end
