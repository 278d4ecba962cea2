section
variable {Ω : w_O} {d u v : Nat} {L : w_L} {E : w_E} {P Y : w_R}
/-! Course.passDusk -/
theorem s_dusk1_ok_34 {C : w_R} {p : Nat} (hC : COK C) (hp : p < 12) : COK (s_dusk1 P C p) := by
  unfold s_dusk1
  have h1 : COK (if (C 3 0 / 2 ^ p) &&& 1 ≠ 0 ∧ ¬ ((C 5 0 / 2 ^ p) &&& 1 ≠ 0 ∧ P 11 p &&& C 4 0 = 0) then s_undo C p else C) := by
    split
    · exact s_undo_ok hC hp
    · exact hC
  dsimp only
  generalize (if (C 3 0 / 2 ^ p) &&& 1 ≠ 0 ∧ ¬ ((C 5 0 / 2 ^ p) &&& 1 ≠ 0 ∧ P 11 p &&& C 4 0 = 0) then s_undo C p else C) = C1 at h1
  refine COK.put ?_ 9 p 0 (by omega) (by omega) (by omega) (by omega) (by omega) (by omega) (by omega)
  exact COK.put h1 8 p _ (by omega) (by omega) (by omega) (by omega) (by omega) (fun _ => h1.2.2.2.2.2.2 p) (by omega)
theorem pd_34 (hE : w_fit d E) (hP : s_POK P) : ∀ (n j : Nat) (I : w_I), j + n = P 6 0 → PRep 15 P I → COK (cv 34 I) →
    (∀ I', cv 34 I' = (List.range' j n).foldl (s_dusk1 P) (cv 34 I) → COK (cv 34 I') → Fr 34 38 I I' → V mX0_passDusk E Ω 0 0 (SH u v) I' L 92 [(0, .ref (Ω.1 + 34)), (1, .int (nI (j + n)))] []) →
    V mX0_passDusk E Ω 0 0 (SH u v) I L 2 [(0, .ref (Ω.1 + 34)), (1, .int (nI j))] [] := by
  have hp := hP.2.2.2.2.1
  intro n
  induction n with
  | zero =>
    intro j I hj hR hC hk
    refine V_iload_n 2 1 dX0_passDusk_2 rfl ?_
    refine V_aload_n 3 0 dX0_passDusk_3 rfl ?_
    refine V_getR 4 flX0_21 dX0_passDusk_4 rfl ?_
    refine V_getI 7 flX0_80 dX0_passDusk_7 rfl ?_
    rw [hR.2.2.2.2.1]
    refine V_cN_ge 10 92 dX0_passDusk_10 (by decide) (by omega) (by omega) (fun c => ?_) (fun c => ?_)
    · exact hk I rfl hC Fr.rf
    · omega
  | succ n ih =>
    intro j I hj hR hC hk
    have hjp : j < P 6 0 := by omega
    obtain ⟨q1, q2, q3, q4, q5, q6⟩ := hP.2.2.2.2.2 j hjp
    obtain ⟨r1, r2, r3, r4, r5⟩ := hR.2.2.2.2.2 j hjp
    have hj2 : 2 ^ j < 4096 := p12 (by omega)
    have hst : I 34 4 < 4096 := hC.2.1
    have hun : I 34 5 < 4096 := hC.2.2.1
    have hag : I 34 6 < 4096 := hC.2.2.2.1
    have k67 : ∀ (h : Nat) (I1 : w_I), cv 34 I1 = (if (cv 34 I 3 0 / 2 ^ j) &&& 1 ≠ 0 ∧ ¬ ((cv 34 I 5 0 / 2 ^ j) &&& 1 ≠ 0 ∧ P 11 j &&& cv 34 I 4 0 = 0) then s_undo (cv 34 I) j else cv 34 I) → Fr 34 38 I I1 → V mX0_passDusk E Ω 0 0 (SH u v) I1 L 67 [(0, .ref (Ω.1 + 34)), (1, .int (nI j)), (2, .int (nI h))] [] := by
      intro h I1 h1 h2
      refine V_aload_n 67 0 dX0_passDusk_67 rfl ?_
      refine V_getR 68 flX0_15 dX0_passDusk_68 rfl ?_
      refine V_iload_n 71 1 dX0_passDusk_71 rfl ?_
      refine V_aload_n 72 0 dX0_passDusk_72 rfl ?_
      refine V_getR 73 flX0_18 dX0_passDusk_73 rfl ?_
      refine V_iload_n 76 1 dX0_passDusk_76 rfl ?_
      refine V_iald 77 dX0_passDusk_77 rfl (by omega) (by omega) ?_
      refine V_iast 78 dX0_passDusk_78 rfl (by omega) (by omega) ?_
      refine V_aload_n 79 0 dX0_passDusk_79 rfl ?_
      refine V_getR 80 flX0_18 dX0_passDusk_80 rfl ?_
      refine V_iload_n 83 1 dX0_passDusk_83 rfl ?_
      refine V_cst 84 0 dX0_passDusk_84 rfl ?_
      refine V_iast 85 dX0_passDusk_85 rfl (by omega) (by omega) ?_
      have e9 : I1 37 j = cv 34 I1 9 j := by simp only [cv]; rw [if_pos (by omega)]
      have e1 : cv 34 (w_put (w_put I1 36 j (I1 37 j)) 37 j 0) = s_dusk1 P (cv 34 I) j := by
        rw [cva_34_9 (by omega), cva_34_8 (by omega), e9]
        unfold s_dusk1
        dsimp only
        rw [← h1]
      have hf : Fr 34 38 I (w_put (w_put I1 36 j (I1 37 j)) 37 j 0) := (h2.put (by decide) (by decide)).put (by decide) (by decide)
      refine V_inc 86 1 _ [(0, _), (1, _), (2, _)] dX0_passDusk_86 rfl rfl rfl (by decide) rfl ?_
      refine V_goto 89 2 dX0_passDusk_89 (by decide) ?_
      refine V_sub [(0, _), (1, _)] [0, 1] rfl ?_
      refine ih (j + 1) _ (by omega) (hR.fr hf (by decide)) (by rw [e1]; exact s_dusk1_ok_34 hC (by omega)) (fun I' g1 g2 g3 => ?_)
      rw [show j + 1 + n = j + (n + 1) by omega]
      exact hk I' (by rw [g1, e1]; rfl) g2 (hf.trans g3)
    have k46 : ∀ h : Nat, h < 2 → (h ≠ 0 ↔ ((cv 34 I 5 0 / 2 ^ j) &&& 1 ≠ 0 ∧ P 11 j &&& cv 34 I 4 0 = 0)) → V mX0_passDusk E Ω 0 0 (SH u v) I L 46 [(0, .ref (Ω.1 + 34)), (1, .int (nI j))] [.int (nI h)] := by
      intro h hh2 hh
      refine V_istore_n 46 [(0, _), (1, _), (2, _)] dX0_passDusk_46 (by decide) rfl ?_
      refine V_aload_n 47 0 dX0_passDusk_47 rfl ?_
      refine V_getI 48 flX0_41 dX0_passDusk_48 rfl ?_
      refine V_iload_n 51 1 dX0_passDusk_51 rfl ?_
      refine V_shr 52 dX0_passDusk_52 (by omega) (by omega) ?_
      refine V_cst 53 1 dX0_passDusk_53 rfl ?_
      refine V_and 54 dX0_passDusk_54 ?_
      refine V_zN_eq 55 67 dX0_passDusk_55 (by decide) (and_lt2 (by decide)) (fun c3 => ?_) (fun c3 => ?_)
      · exact k67 h I (by rw [if_neg (fun e => e.1 c3)]) Fr.rf
      refine V_iload_n 58 2 dX0_passDusk_58 rfl ?_
      refine V_zN_ne 59 67 dX0_passDusk_59 (by decide) (by omega) (fun c4 => ?_) (fun c4 => ?_)
      · exact k67 h I (by rw [if_neg (fun e => e.2 (hh.mp c4))]) Fr.rf
      refine V_aload_n 62 0 dX0_passDusk_62 rfl ?_
      refine V_iload_n 63 1 dX0_passDusk_63 rfl ?_
      refine V_vv 64 mvX0_92 dX0_passDusk_64 ⟨_, _, _, rfl, rfl, rfl⟩ (w_fit.mono (by omega) hE) (c_undo_34 (d := d) (by omega)) rfl (Nat.le_of_ble_eq_true rfl) ?_
      rintro _ I1 _ ⟨rfl, rfl, h1, h2⟩
      exact k67 h I1 (by rw [h1, if_pos ⟨c3, fun e => hh.mpr e c4⟩]) h2
    refine V_iload_n 2 1 dX0_passDusk_2 rfl ?_
    refine V_aload_n 3 0 dX0_passDusk_3 rfl ?_
    refine V_getR 4 flX0_21 dX0_passDusk_4 rfl ?_
    refine V_getI 7 flX0_80 dX0_passDusk_7 rfl ?_
    rw [hR.2.2.2.2.1]
    refine V_cN_ge 10 92 dX0_passDusk_10 (by decide) (by omega) (by omega) (fun c => ?_) (fun c => ?_)
    · omega
    refine V_aload_n 13 0 dX0_passDusk_13 rfl ?_
    refine V_getI 14 flX0_47 dX0_passDusk_14 rfl ?_
    refine V_iload_n 17 1 dX0_passDusk_17 rfl ?_
    refine V_shr 18 dX0_passDusk_18 (by omega) (by omega) ?_
    refine V_cst 19 1 dX0_passDusk_19 rfl ?_
    refine V_and 20 dX0_passDusk_20 ?_
    refine V_zN_eq 21 45 dX0_passDusk_21 (by decide) (and_lt2 (by decide)) (fun c1 => ?_) (fun c1 => ?_)
    · refine V_cst 45 0 dX0_passDusk_45 rfl ?_
      exact k46 0 (by decide) ⟨fun e => absurd rfl e, fun e => absurd c1 e.1⟩
    refine V_aload_n 24 0 dX0_passDusk_24 rfl ?_
    refine V_getR 25 flX0_21 dX0_passDusk_25 rfl ?_
    refine V_getR 28 flX0_89 dX0_passDusk_28 rfl ?_
    refine V_iload_n 31 1 dX0_passDusk_31 rfl ?_
    refine V_iald 32 dX0_passDusk_32 rfl (by omega) (by omega) ?_
    refine V_aload_n 33 0 dX0_passDusk_33 rfl ?_
    refine V_getI 34 flX0_44 dX0_passDusk_34 rfl ?_
    refine V_and 37 dX0_passDusk_37 ?_
    rw [r5]
    refine V_zN_ne 38 45 dX0_passDusk_38 (by decide) (and_lt1 (by omega)) (fun c2 => ?_) (fun c2 => ?_)
    · refine V_cst 45 0 dX0_passDusk_45 rfl ?_
      exact k46 0 (by decide) ⟨fun e => absurd rfl e, fun e => absurd e.2 c2⟩
    refine V_cst 41 1 dX0_passDusk_41 rfl ?_
    refine V_goto 42 46 dX0_passDusk_42 (by decide) ?_
    exact k46 1 (by decide) ⟨fun _ => ⟨c1, c2⟩, fun _ => by decide⟩
theorem c_passDusk_34 {I : w_I} (hP : s_POK P) (hR : PRep 15 P I) (hC : COK (cv 34 I)) : FnV Ω (d + 1) mX0_passDusk [.ref (Ω.1 + 34)] (SH u v) I L (fun S' I' L' => S' = SH u v ∧ L = L' ∧ cv 34 I' = s_dusk P (cv 34 I) ∧ Fr 34 38 I I') := by
  refine FnR_of okX0_passDusk (Nat.le_of_ble_eq_true rfl) fun l z => ?_
  show V _ _ _ _ _ _ _ _ 0 [(0, _)] []
  refine V_cst 0 0 dX0_passDusk_0 rfl ?_
  refine V_istore_n 1 [(0, _), (1, _)] dX0_passDusk_1 (by decide) rfl ?_
  refine pd_34 (d := d) w_fit_r hP (P 6 0) 0 I (by omega) hR hC (fun I' h1 h2 h3 => ?_)
  refine V_aload_n 92 0 dX0_passDusk_92 rfl ?_
  refine V_cst 93 0 dX0_passDusk_93 rfl ?_
  refine V_putI 94 flX0_47 ft_0_6 dX0_passDusk_94 rfl ?_
  refine V_aload_n 97 0 dX0_passDusk_97 rfl ?_
  refine V_dup 98 dX0_passDusk_98 rfl ?_
  refine V_getI 99 flX0_31 dX0_passDusk_99 rfl ?_
  refine V_cst 102 1 dX0_passDusk_102 rfl ?_
  refine V_add 103 dX0_passDusk_103 ?_
  refine V_putI 104 flX0_31 ft_0_1 dX0_passDusk_104 rfl ?_
  refine V_ret 107 dX0_passDusk_107 rfl ⟨rfl, rfl, ?_, (h3.put (by decide) (by decide)).put (by decide) (by decide)⟩
  rw [cvs_34_1, cvs_34_6, h1, ← List.range_eq_range']
  rw [w_put_other _ (Or.inr (by decide)), show I' 34 1 = cv 34 I' 0 0 from rfl, h1, ← List.range_eq_range']
  unfold s_dusk
  dsimp only
  rw [w_put_other (List.foldl (s_dusk1 P) (cv 34 I) (List.range (P 6 0))) (Or.inl (by decide))]
theorem s_dusk1_ok_54 {C : w_R} {p : Nat} (hC : COK C) (hp : p < 12) : COK (s_dusk1 P C p) := by
  unfold s_dusk1
  have h1 : COK (if (C 3 0 / 2 ^ p) &&& 1 ≠ 0 ∧ ¬ ((C 5 0 / 2 ^ p) &&& 1 ≠ 0 ∧ P 11 p &&& C 4 0 = 0) then s_undo C p else C) := by
    split
    · exact s_undo_ok hC hp
    · exact hC
  dsimp only
  generalize (if (C 3 0 / 2 ^ p) &&& 1 ≠ 0 ∧ ¬ ((C 5 0 / 2 ^ p) &&& 1 ≠ 0 ∧ P 11 p &&& C 4 0 = 0) then s_undo C p else C) = C1 at h1
  refine COK.put ?_ 9 p 0 (by omega) (by omega) (by omega) (by omega) (by omega) (by omega) (by omega)
  exact COK.put h1 8 p _ (by omega) (by omega) (by omega) (by omega) (by omega) (fun _ => h1.2.2.2.2.2.2 p) (by omega)
theorem pd_54 (hE : w_fit d E) (hP : s_POK P) : ∀ (n j : Nat) (I : w_I), j + n = P 6 0 → PRep 15 P I → COK (cv 54 I) →
    (∀ I', cv 54 I' = (List.range' j n).foldl (s_dusk1 P) (cv 54 I) → COK (cv 54 I') → Fr 54 58 I I' → V mX0_passDusk E Ω 0 0 (SH u v) I' L 92 [(0, .ref (Ω.1 + 54)), (1, .int (nI (j + n)))] []) →
    V mX0_passDusk E Ω 0 0 (SH u v) I L 2 [(0, .ref (Ω.1 + 54)), (1, .int (nI j))] [] := by
  have hp := hP.2.2.2.2.1
  intro n
  induction n with
  | zero =>
    intro j I hj hR hC hk
    refine V_iload_n 2 1 dX0_passDusk_2 rfl ?_
    refine V_aload_n 3 0 dX0_passDusk_3 rfl ?_
    refine V_getR 4 flX0_21 dX0_passDusk_4 rfl ?_
    refine V_getI 7 flX0_80 dX0_passDusk_7 rfl ?_
    rw [hR.2.2.2.2.1]
    refine V_cN_ge 10 92 dX0_passDusk_10 (by decide) (by omega) (by omega) (fun c => ?_) (fun c => ?_)
    · exact hk I rfl hC Fr.rf
    · omega
  | succ n ih =>
    intro j I hj hR hC hk
    have hjp : j < P 6 0 := by omega
    obtain ⟨q1, q2, q3, q4, q5, q6⟩ := hP.2.2.2.2.2 j hjp
    obtain ⟨r1, r2, r3, r4, r5⟩ := hR.2.2.2.2.2 j hjp
    have hj2 : 2 ^ j < 4096 := p12 (by omega)
    have hst : I 54 4 < 4096 := hC.2.1
    have hun : I 54 5 < 4096 := hC.2.2.1
    have hag : I 54 6 < 4096 := hC.2.2.2.1
    have k67 : ∀ (h : Nat) (I1 : w_I), cv 54 I1 = (if (cv 54 I 3 0 / 2 ^ j) &&& 1 ≠ 0 ∧ ¬ ((cv 54 I 5 0 / 2 ^ j) &&& 1 ≠ 0 ∧ P 11 j &&& cv 54 I 4 0 = 0) then s_undo (cv 54 I) j else cv 54 I) → Fr 54 58 I I1 → V mX0_passDusk E Ω 0 0 (SH u v) I1 L 67 [(0, .ref (Ω.1 + 54)), (1, .int (nI j)), (2, .int (nI h))] [] := by
      intro h I1 h1 h2
      refine V_aload_n 67 0 dX0_passDusk_67 rfl ?_
      refine V_getR 68 flX0_15 dX0_passDusk_68 rfl ?_
      refine V_iload_n 71 1 dX0_passDusk_71 rfl ?_
      refine V_aload_n 72 0 dX0_passDusk_72 rfl ?_
      refine V_getR 73 flX0_18 dX0_passDusk_73 rfl ?_
      refine V_iload_n 76 1 dX0_passDusk_76 rfl ?_
      refine V_iald 77 dX0_passDusk_77 rfl (by omega) (by omega) ?_
      refine V_iast 78 dX0_passDusk_78 rfl (by omega) (by omega) ?_
      refine V_aload_n 79 0 dX0_passDusk_79 rfl ?_
      refine V_getR 80 flX0_18 dX0_passDusk_80 rfl ?_
      refine V_iload_n 83 1 dX0_passDusk_83 rfl ?_
      refine V_cst 84 0 dX0_passDusk_84 rfl ?_
      refine V_iast 85 dX0_passDusk_85 rfl (by omega) (by omega) ?_
      have e9 : I1 57 j = cv 54 I1 9 j := by simp only [cv]; rw [if_pos (by omega)]
      have e1 : cv 54 (w_put (w_put I1 56 j (I1 57 j)) 57 j 0) = s_dusk1 P (cv 54 I) j := by
        rw [cva_54_9 (by omega), cva_54_8 (by omega), e9]
        unfold s_dusk1
        dsimp only
        rw [← h1]
      have hf : Fr 54 58 I (w_put (w_put I1 56 j (I1 57 j)) 57 j 0) := (h2.put (by decide) (by decide)).put (by decide) (by decide)
      refine V_inc 86 1 _ [(0, _), (1, _), (2, _)] dX0_passDusk_86 rfl rfl rfl (by decide) rfl ?_
      refine V_goto 89 2 dX0_passDusk_89 (by decide) ?_
      refine V_sub [(0, _), (1, _)] [0, 1] rfl ?_
      refine ih (j + 1) _ (by omega) (hR.fr hf (by decide)) (by rw [e1]; exact s_dusk1_ok_54 hC (by omega)) (fun I' g1 g2 g3 => ?_)
      rw [show j + 1 + n = j + (n + 1) by omega]
      exact hk I' (by rw [g1, e1]; rfl) g2 (hf.trans g3)
    have k46 : ∀ h : Nat, h < 2 → (h ≠ 0 ↔ ((cv 54 I 5 0 / 2 ^ j) &&& 1 ≠ 0 ∧ P 11 j &&& cv 54 I 4 0 = 0)) → V mX0_passDusk E Ω 0 0 (SH u v) I L 46 [(0, .ref (Ω.1 + 54)), (1, .int (nI j))] [.int (nI h)] := by
      intro h hh2 hh
      refine V_istore_n 46 [(0, _), (1, _), (2, _)] dX0_passDusk_46 (by decide) rfl ?_
      refine V_aload_n 47 0 dX0_passDusk_47 rfl ?_
      refine V_getI 48 flX0_41 dX0_passDusk_48 rfl ?_
      refine V_iload_n 51 1 dX0_passDusk_51 rfl ?_
      refine V_shr 52 dX0_passDusk_52 (by omega) (by omega) ?_
      refine V_cst 53 1 dX0_passDusk_53 rfl ?_
      refine V_and 54 dX0_passDusk_54 ?_
      refine V_zN_eq 55 67 dX0_passDusk_55 (by decide) (and_lt2 (by decide)) (fun c3 => ?_) (fun c3 => ?_)
      · exact k67 h I (by rw [if_neg (fun e => e.1 c3)]) Fr.rf
      refine V_iload_n 58 2 dX0_passDusk_58 rfl ?_
      refine V_zN_ne 59 67 dX0_passDusk_59 (by decide) (by omega) (fun c4 => ?_) (fun c4 => ?_)
      · exact k67 h I (by rw [if_neg (fun e => e.2 (hh.mp c4))]) Fr.rf
      refine V_aload_n 62 0 dX0_passDusk_62 rfl ?_
      refine V_iload_n 63 1 dX0_passDusk_63 rfl ?_
      refine V_vv 64 mvX0_92 dX0_passDusk_64 ⟨_, _, _, rfl, rfl, rfl⟩ (w_fit.mono (by omega) hE) (c_undo_54 (d := d) (by omega)) rfl (Nat.le_of_ble_eq_true rfl) ?_
      rintro _ I1 _ ⟨rfl, rfl, h1, h2⟩
      exact k67 h I1 (by rw [h1, if_pos ⟨c3, fun e => hh.mpr e c4⟩]) h2
    refine V_iload_n 2 1 dX0_passDusk_2 rfl ?_
    refine V_aload_n 3 0 dX0_passDusk_3 rfl ?_
    refine V_getR 4 flX0_21 dX0_passDusk_4 rfl ?_
    refine V_getI 7 flX0_80 dX0_passDusk_7 rfl ?_
    rw [hR.2.2.2.2.1]
    refine V_cN_ge 10 92 dX0_passDusk_10 (by decide) (by omega) (by omega) (fun c => ?_) (fun c => ?_)
    · omega
    refine V_aload_n 13 0 dX0_passDusk_13 rfl ?_
    refine V_getI 14 flX0_47 dX0_passDusk_14 rfl ?_
    refine V_iload_n 17 1 dX0_passDusk_17 rfl ?_
    refine V_shr 18 dX0_passDusk_18 (by omega) (by omega) ?_
    refine V_cst 19 1 dX0_passDusk_19 rfl ?_
    refine V_and 20 dX0_passDusk_20 ?_
    refine V_zN_eq 21 45 dX0_passDusk_21 (by decide) (and_lt2 (by decide)) (fun c1 => ?_) (fun c1 => ?_)
    · refine V_cst 45 0 dX0_passDusk_45 rfl ?_
      exact k46 0 (by decide) ⟨fun e => absurd rfl e, fun e => absurd c1 e.1⟩
    refine V_aload_n 24 0 dX0_passDusk_24 rfl ?_
    refine V_getR 25 flX0_21 dX0_passDusk_25 rfl ?_
    refine V_getR 28 flX0_89 dX0_passDusk_28 rfl ?_
    refine V_iload_n 31 1 dX0_passDusk_31 rfl ?_
    refine V_iald 32 dX0_passDusk_32 rfl (by omega) (by omega) ?_
    refine V_aload_n 33 0 dX0_passDusk_33 rfl ?_
    refine V_getI 34 flX0_44 dX0_passDusk_34 rfl ?_
    refine V_and 37 dX0_passDusk_37 ?_
    rw [r5]
    refine V_zN_ne 38 45 dX0_passDusk_38 (by decide) (and_lt1 (by omega)) (fun c2 => ?_) (fun c2 => ?_)
    · refine V_cst 45 0 dX0_passDusk_45 rfl ?_
      exact k46 0 (by decide) ⟨fun e => absurd rfl e, fun e => absurd e.2 c2⟩
    refine V_cst 41 1 dX0_passDusk_41 rfl ?_
    refine V_goto 42 46 dX0_passDusk_42 (by decide) ?_
    exact k46 1 (by decide) ⟨fun _ => ⟨c1, c2⟩, fun _ => by decide⟩
theorem c_passDusk_54 {I : w_I} (hP : s_POK P) (hR : PRep 15 P I) (hC : COK (cv 54 I)) : FnV Ω (d + 1) mX0_passDusk [.ref (Ω.1 + 54)] (SH u v) I L (fun S' I' L' => S' = SH u v ∧ L = L' ∧ cv 54 I' = s_dusk P (cv 54 I) ∧ Fr 54 58 I I') := by
  refine FnR_of okX0_passDusk (Nat.le_of_ble_eq_true rfl) fun l z => ?_
  show V _ _ _ _ _ _ _ _ 0 [(0, _)] []
  refine V_cst 0 0 dX0_passDusk_0 rfl ?_
  refine V_istore_n 1 [(0, _), (1, _)] dX0_passDusk_1 (by decide) rfl ?_
  refine pd_54 (d := d) w_fit_r hP (P 6 0) 0 I (by omega) hR hC (fun I' h1 h2 h3 => ?_)
  refine V_aload_n 92 0 dX0_passDusk_92 rfl ?_
  refine V_cst 93 0 dX0_passDusk_93 rfl ?_
  refine V_putI 94 flX0_47 ft_0_6 dX0_passDusk_94 rfl ?_
  refine V_aload_n 97 0 dX0_passDusk_97 rfl ?_
  refine V_dup 98 dX0_passDusk_98 rfl ?_
  refine V_getI 99 flX0_31 dX0_passDusk_99 rfl ?_
  refine V_cst 102 1 dX0_passDusk_102 rfl ?_
  refine V_add 103 dX0_passDusk_103 ?_
  refine V_putI 104 flX0_31 ft_0_1 dX0_passDusk_104 rfl ?_
  refine V_ret 107 dX0_passDusk_107 rfl ⟨rfl, rfl, ?_, (h3.put (by decide) (by decide)).put (by decide) (by decide)⟩
  rw [cvs_54_1, cvs_54_6, h1, ← List.range_eq_range']
  rw [w_put_other _ (Or.inr (by decide)), show I' 54 1 = cv 54 I' 0 0 from rfl, h1, ← List.range_eq_range']
  unfold s_dusk
  dsimp only
  rw [w_put_other (List.foldl (s_dusk1 P) (cv 54 I) (List.range (P 6 0))) (Or.inl (by decide))]
/-! Arrays.fill -/
def w_fill (x : Nat) (f : Nat → Nat) (nn : Nat) : Nat → Nat := fun j => if j < nn then x else f j
theorem fi_l {S : List w_SC} {a nn x : Nat} (hS : S[a]? = some (.inl (0, nn))) (hnn : nn < 2 ^ 31) : ∀ (n j : Nat) (I : w_I), j + n = nn →
    (∀ I', I' = w_row I a (fun q => if j ≤ q ∧ q < nn then x else I a q) → V mJ7_fill_53178 E Ω 0 0 S I' L 20 [(0, .ref (Ω.1 + a)), (1, .int (nI x)), (2, .int (nI nn)), (3, .int (nI nn))] []) →
    V mJ7_fill_53178 E Ω 0 0 S I L 5 [(0, .ref (Ω.1 + a)), (1, .int (nI x)), (2, .int (nI j)), (3, .int (nI nn))] [] := by
  intro n
  induction n with
  | zero =>
    intro j I hj hk
    have e : j = nn := by omega
    subst e
    refine V_iload_n 5 2 dJ7_fill_53178_5 rfl ?_
    refine V_iload_n 6 3 dJ7_fill_53178_6 rfl ?_
    refine V_cN_ge 7 20 dJ7_fill_53178_7 (by decide) (by omega) (by omega) (fun c => ?_) (fun c => ?_)
    · refine hk I ?_
      funext i q
      unfold w_row
      by_cases h : i = a
      · rw [if_pos h, if_neg (by omega), h]
      · rw [if_neg h]
    · omega
  | succ n ih =>
    intro j I hj hk
    refine V_iload_n 5 2 dJ7_fill_53178_5 rfl ?_
    refine V_iload_n 6 3 dJ7_fill_53178_6 rfl ?_
    refine V_cN_ge 7 20 dJ7_fill_53178_7 (by decide) (by omega) (by omega) (fun c => ?_) (fun c => ?_)
    · omega
    refine V_aload_n 10 0 dJ7_fill_53178_10 rfl ?_
    refine V_iload_n 11 2 dJ7_fill_53178_11 rfl ?_
    refine V_iload_n 12 1 dJ7_fill_53178_12 rfl ?_
    refine V_iast 13 dJ7_fill_53178_13 hS (by omega) (by omega) ?_
    refine V_inc 14 2 _ [(0, _), (1, _), (2, _), (3, _)] dJ7_fill_53178_14 rfl rfl rfl (by decide) rfl ?_
    refine V_goto 17 5 dJ7_fill_53178_17 (by decide) ?_
    refine ih (j + 1) _ (by omega) (fun I' h => hk I' ?_)
    rw [h]
    funext i q
    unfold w_row
    by_cases h1 : i = a
    · rw [if_pos h1, if_pos h1]
      by_cases h2 : q = j
      · subst h2
        rw [if_neg (by omega), w_put_same, if_pos (by omega)]
      · rw [w_put_other _ (Or.inr h2)]
        by_cases h3 : j + 1 ≤ q ∧ q < nn
        · rw [if_pos h3, if_pos (by omega)]
        · rw [if_neg h3, if_neg (by omega)]
    · rw [if_neg h1, if_neg h1, w_put_ne I i h1]
theorem c_fill {S : List w_SC} {I : w_I} {a nn x : Nat} (hS : S[a]? = some (.inl (0, nn))) (hnn : nn < 2 ^ 31) : FnV Ω d mJ7_fill_53178 [.ref (Ω.1 + a), .int (nI x)] S I L (fun S' I' L' => S' = S ∧ L = L' ∧ I' = w_row I a (w_fill x (I a) nn)) := by
  refine FnR_of okJ7_fill_53178 (Nat.le_of_ble_eq_true rfl) fun l z => ?_
  show V _ _ _ _ _ _ _ _ 0 [(0, _), (1, _)] []
  refine V_cst 0 0 dJ7_fill_53178_0 rfl ?_
  refine V_istore_n 1 [(0, _), (1, _), (2, _)] dJ7_fill_53178_1 (by decide) rfl ?_
  refine V_aload_n 2 0 dJ7_fill_53178_2 rfl ?_
  refine V_alen 3 dJ7_fill_53178_3 hS (by decide) ?_
  refine V_istore_n 4 [(0, _), (1, _), (2, _), (3, _)] dJ7_fill_53178_4 (by decide) rfl ?_
  refine fi_l hS hnn nn 0 I (by omega) (fun I' h => ?_)
  refine V_ret 20 dJ7_fill_53178_20 rfl ⟨rfl, rfl, ?_⟩
  rw [h]
  unfold w_fill
  simp only [Nat.zero_le, true_and]
/-! Course.begin, stateOf -/
def s_new : w_R := fun k j => if k = 7 ∧ j < 12 then mI else 0
theorem cv_row {c : Nat} {I : w_I} {f : Nat → Nat} (k : Nat) (hk : k < 3) : cv c (w_row I (c + 1 + k) f) = w_row (cv c I) (7 + k) (fun j => if j < 12 then f j else 0) := by
  have hc : w_row I (c + 1 + k) f c = I c := w_row_ne I c (by omega)
  have hat : w_row I (c + 1 + k) f (c + 1 + k) = f := w_row_at I
  funext q j
  by_cases hq : q = 7 + k
  · subst hq
    rw [w_row_at]
    rcases (show k = 0 ∨ k = 1 ∨ k = 2 by omega) with rfl | rfl | rfl
    · show (if j < 12 then w_row I (c + 1 + 0) f (c + 1) j else 0) = _
      rw [show w_row I (c + 1 + 0) f (c + 1) = f from hat]
    · show (if j < 12 then w_row I (c + 1 + 1) f (c + 2) j else 0) = _
      rw [show w_row I (c + 1 + 1) f (c + 2) = f from hat]
    · show (if j < 12 then w_row I (c + 1 + 2) f (c + 3) j else 0) = _
      rw [show w_row I (c + 1 + 2) f (c + 3) = f from hat]
  · rw [w_row_ne _ _ hq]
    unfold cv
    rw [hc]
    split
    all_goals first | rfl | skip
    · rw [w_row_ne I _ (by omega)]
    · rw [w_row_ne I _ (by omega)]
    · rw [w_row_ne I _ (by omega)]
def CWF (C : w_R) : Prop := (∀ k j, k < 7 → j ≠ 0 → C k j = 0) ∧ (∀ k j, 7 ≤ k → k < 10 → 12 ≤ j → C k j = 0) ∧ ∀ k j, 10 ≤ k → C k j = 0
theorem cv_eq {c : Nat} {I : w_I} {C : w_R} (hw : CWF C) (hs : ∀ k, k < 7 → I c (k + 1) = C k 0) (ha : ∀ k j, k < 3 → j < 12 → I (c + 1 + k) j = C (7 + k) j) : cv c I = C := by
  obtain ⟨w1, w2, w3⟩ := hw
  have sc : ∀ k j, k < 7 → (if j = 0 then I c (k + 1) else 0) = C k j := by
    intro k j hk
    by_cases h : j = 0
    · rw [if_pos h, h]; exact hs k hk
    · rw [if_neg h, w1 k j hk h]
  have ar : ∀ k j, k < 3 → (if j < 12 then I (c + 1 + k) j else 0) = C (7 + k) j := by
    intro k j hk
    by_cases h : j < 12
    · rw [if_pos h]; exact ha k j hk h
    · rw [if_neg h, w2 (7 + k) j (by omega) (by omega) (by omega)]
  funext k j
  rcases Nat.lt_or_ge k 10 with hk | hk
  · rcases (show k = 0 ∨ k = 1 ∨ k = 2 ∨ k = 3 ∨ k = 4 ∨ k = 5 ∨ k = 6 ∨ k = 7 ∨ k = 8 ∨ k = 9 by omega) with rfl | rfl | rfl | rfl | rfl | rfl | rfl | rfl | rfl | rfl
    · exact sc 0 j (by decide)
    · exact sc 1 j (by decide)
    · exact sc 2 j (by decide)
    · exact sc 3 j (by decide)
    · exact sc 4 j (by decide)
    · exact sc 5 j (by decide)
    · exact sc 6 j (by decide)
    · exact ar 0 j (by decide)
    · exact ar 1 j (by decide)
    · exact ar 2 j (by decide)
  · rw [w3 k j hk]
    unfold cv
    split <;> first | rfl | (exfalso; omega)
theorem s_new_wf (x : Nat) : CWF (w_put s_new 6 0 x) := by
  refine ⟨fun k j h1 h2 => ?_, fun k j h1 h2 h3 => ?_, fun k j h1 => ?_⟩
  · rw [w_put_other _ (Or.inr h2)]; unfold s_new; rw [if_neg (by omega)]
  · rw [w_put_other _ (Or.inl (by omega))]; unfold s_new; rw [if_neg (by omega)]
  · rw [w_put_other _ (Or.inl (by omega))]; unfold s_new; rw [if_neg (by omega)]
theorem c_begin_34 {I : w_I} : FnV Ω (d + 1) mX0_begin [.ref (Ω.1 + 34)] (SH u v) I L (fun S' I' L' => S' = SH u v ∧ L = L' ∧ cv 34 I' = w_put s_new 6 0 (I 34 7) ∧ Fr 34 38 I I') := by
  refine FnR_of okX0_begin (Nat.le_of_ble_eq_true rfl) fun l z => ?_
  have hE : w_fit d (w_Er l (d + 1) 0 0 Ω (w_pv (fun S' I' L' => S' = SH u v ∧ L = L' ∧ cv 34 I' = w_put s_new 6 0 (I 34 7) ∧ Fr 34 38 I I')) z) := w_fit_r
  show V _ _ _ _ _ _ _ _ 0 [(0, _)] []
  refine V_aload_n 0 0 dX0_begin_0 rfl ?_
  refine V_cst 1 0 dX0_begin_1 rfl ?_
  refine V_putI 2 flX0_31 ft_0_1 dX0_begin_2 rfl ?_
  refine V_aload_n 5 0 dX0_begin_5 rfl ?_
  refine V_cst 6 0 dX0_begin_6 rfl ?_
  refine V_putI 7 flX0_35 ft_0_2 dX0_begin_7 rfl ?_
  refine V_aload_n 10 0 dX0_begin_10 rfl ?_
  refine V_cst 11 0 dX0_begin_11 rfl ?_
  refine V_putI 12 flX0_38 ft_0_3 dX0_begin_12 rfl ?_
  refine V_aload_n 15 0 dX0_begin_15 rfl ?_
  refine V_cst 16 0 dX0_begin_16 rfl ?_
  refine V_putI 17 flX0_41 ft_0_4 dX0_begin_17 rfl ?_
  refine V_aload_n 20 0 dX0_begin_20 rfl ?_
  refine V_cst 21 0 dX0_begin_21 rfl ?_
  refine V_putI 22 flX0_44 ft_0_5 dX0_begin_22 rfl ?_
  refine V_aload_n 25 0 dX0_begin_25 rfl ?_
  refine V_cst 26 0 dX0_begin_26 rfl ?_
  refine V_putI 27 flX0_47 ft_0_6 dX0_begin_27 rfl ?_
  refine V_aload_n 30 0 dX0_begin_30 rfl ?_
  refine V_getR 31 flX0_9 dX0_begin_31 rfl ?_
  refine V_cst 34 4294967295 dX0_begin_34 rfl ?_
  refine V_sv 35 msX0_25 dX0_begin_35 (w_fit.mono (by omega) hE) (c_fill (d := d) (a := 35) (nn := 12) rfl (by decide)) rfl (Nat.le_of_ble_eq_true rfl) ?_
  rintro _ I1 _ ⟨rfl, rfl, h1⟩
  refine V_aload_n 38 0 dX0_begin_38 rfl ?_
  refine V_getR 39 flX0_15 dX0_begin_39 rfl ?_
  refine V_cst 42 0 dX0_begin_42 rfl ?_
  refine V_sv 43 msX0_25 dX0_begin_43 (w_fit.mono (by omega) hE) (c_fill (d := d) (a := 36) (nn := 12) rfl (by decide)) rfl (Nat.le_of_ble_eq_true rfl) ?_
  rintro _ I2 _ ⟨rfl, rfl, h2⟩
  refine V_aload_n 46 0 dX0_begin_46 rfl ?_
  refine V_getR 47 flX0_18 dX0_begin_47 rfl ?_
  refine V_cst 50 0 dX0_begin_50 rfl ?_
  refine V_sv 51 msX0_25 dX0_begin_51 (w_fit.mono (by omega) hE) (c_fill (d := d) (a := 37) (nn := 12) rfl (by decide)) rfl (Nat.le_of_ble_eq_true rfl) ?_
  rintro _ I3 _ ⟨rfl, rfl, h3⟩
  refine V_ret 54 dX0_begin_54 rfl ⟨rfl, rfl, ?_, ?_⟩
  · have e0 : I3 34 = w_put (w_put (w_put (w_put (w_put (w_put I 34 1 0) 34 2 0) 34 3 0) 34 4 0) 34 5 0) 34 6 0 34 := by rw [h3, w_row_ne _ _ (by decide), h2, w_row_ne _ _ (by decide), h1, w_row_ne _ _ (by decide)]
    have e1 : ∀ j, j < 12 → I3 35 j = mI := fun j hj => by rw [h3, w_row_ne _ _ (by decide), h2, w_row_ne _ _ (by decide), h1, w_row_at]; exact if_pos hj
    have e2 : ∀ j, j < 12 → I3 36 j = 0 := fun j hj => by rw [h3, w_row_ne _ _ (by decide), h2, w_row_at]; exact if_pos hj
    have e3 : ∀ j, j < 12 → I3 37 j = 0 := fun j hj => by rw [h3, w_row_at]; exact if_pos hj
    refine cv_eq (s_new_wf _) (fun k hk => ?_) (fun k j hk hj => ?_)
    · rw [e0]
      rcases (show k = 0 ∨ k = 1 ∨ k = 2 ∨ k = 3 ∨ k = 4 ∨ k = 5 ∨ k = 6 by omega) with rfl | rfl | rfl | rfl | rfl | rfl | rfl <;> rfl
    · rcases (show k = 0 ∨ k = 1 ∨ k = 2 by omega) with rfl | rfl | rfl
      · rw [w_put_other _ (Or.inl (by decide))]
        unfold s_new
        rw [if_pos ⟨rfl, hj⟩]
        exact e1 j hj
      · exact e2 j hj
      · exact e3 j hj
  · rw [h3, h2, h1]
    exact (((((((((Fr.rf.put (by decide) (by decide)).put (by decide) (by decide)).put (by decide) (by decide)).put (by decide) (by decide)).put (by decide) (by decide)).put (by decide) (by decide)).row (by decide) (by decide)).row (by decide) (by decide)).row (by decide) (by decide))
theorem c_stateOf_34 {I : w_I} {p : Nat} (hp : p < 12) (hC : COK (cv 34 I)) : FnI Ω d mX0_stateOf [.ref (Ω.1 + 34), .int (nI p)] (SH u v) I L (fun r S' I' L' => r = nI (if I 34 5 &&& 2 ^ p ≠ 0 then 2 else if I 34 4 &&& 2 ^ p ≠ 0 then 1 else 0) ∧ S' = SH u v ∧ I = I' ∧ L = L') := by
  have h1 : I 34 4 < 4096 := hC.2.1
  have h2 : I 34 5 < 4096 := hC.2.2.1
  refine FnR_of okX0_stateOf (Nat.le_of_ble_eq_true rfl) fun l z => ?_
  show V _ _ _ _ _ _ _ _ 0 [(0, _), (1, _)] []
  refine V_cst 0 1 dX0_stateOf_0 rfl ?_
  refine V_iload_n 1 1 dX0_stateOf_1 rfl ?_
  refine V_shl 2 dX0_stateOf_2 (by omega) ?_
  refine V_istore_n 3 [(0, _), (1, _), (2, _)] dX0_stateOf_3 (by decide) rfl ?_
  refine V_aload_n 4 0 dX0_stateOf_4 rfl ?_
  refine V_getI 5 flX0_44 dX0_stateOf_5 rfl ?_
  refine V_iload_n 8 2 dX0_stateOf_8 rfl ?_
  refine V_and 9 dX0_stateOf_9 ?_
  rw [Nat.one_mul]
  refine V_zN_eq 10 15 dX0_stateOf_10 (by decide) (and_lt1 (by omega)) (fun c1 => ?_) (fun c1 => ?_)
  · refine V_aload_n 15 0 dX0_stateOf_15 rfl ?_
    refine V_getI 16 flX0_41 dX0_stateOf_16 rfl ?_
    refine V_iload_n 19 2 dX0_stateOf_19 rfl ?_
    refine V_and 20 dX0_stateOf_20 ?_
    refine V_zN_eq 21 28 dX0_stateOf_21 (by decide) (and_lt1 (by omega)) (fun c2 => ?_) (fun c2 => ?_)
    · refine V_cst 28 0 dX0_stateOf_28 rfl ?_
      exact V_iret 29 dX0_stateOf_29 rfl ⟨by rw [if_neg (fun e => e c1), if_neg (fun e => e c2)], rfl, rfl, rfl⟩
    · refine V_cst 24 1 dX0_stateOf_24 rfl ?_
      refine V_goto 25 29 dX0_stateOf_25 (by decide) ?_
      exact V_iret 29 dX0_stateOf_29 rfl ⟨by rw [if_neg (fun e => e c1), if_pos c2], rfl, rfl, rfl⟩
  · refine V_cst 13 2 dX0_stateOf_13 rfl ?_
    exact V_iret 14 dX0_stateOf_14 rfl ⟨by rw [if_pos c1], rfl, rfl, rfl⟩
theorem c_begin_54 {I : w_I} : FnV Ω (d + 1) mX0_begin [.ref (Ω.1 + 54)] (SH u v) I L (fun S' I' L' => S' = SH u v ∧ L = L' ∧ cv 54 I' = w_put s_new 6 0 (I 54 7) ∧ Fr 54 58 I I') := by
  refine FnR_of okX0_begin (Nat.le_of_ble_eq_true rfl) fun l z => ?_
  have hE : w_fit d (w_Er l (d + 1) 0 0 Ω (w_pv (fun S' I' L' => S' = SH u v ∧ L = L' ∧ cv 54 I' = w_put s_new 6 0 (I 54 7) ∧ Fr 54 58 I I')) z) := w_fit_r
  show V _ _ _ _ _ _ _ _ 0 [(0, _)] []
  refine V_aload_n 0 0 dX0_begin_0 rfl ?_
  refine V_cst 1 0 dX0_begin_1 rfl ?_
  refine V_putI 2 flX0_31 ft_0_1 dX0_begin_2 rfl ?_
  refine V_aload_n 5 0 dX0_begin_5 rfl ?_
  refine V_cst 6 0 dX0_begin_6 rfl ?_
  refine V_putI 7 flX0_35 ft_0_2 dX0_begin_7 rfl ?_
  refine V_aload_n 10 0 dX0_begin_10 rfl ?_
  refine V_cst 11 0 dX0_begin_11 rfl ?_
  refine V_putI 12 flX0_38 ft_0_3 dX0_begin_12 rfl ?_
  refine V_aload_n 15 0 dX0_begin_15 rfl ?_
  refine V_cst 16 0 dX0_begin_16 rfl ?_
  refine V_putI 17 flX0_41 ft_0_4 dX0_begin_17 rfl ?_
  refine V_aload_n 20 0 dX0_begin_20 rfl ?_
  refine V_cst 21 0 dX0_begin_21 rfl ?_
  refine V_putI 22 flX0_44 ft_0_5 dX0_begin_22 rfl ?_
  refine V_aload_n 25 0 dX0_begin_25 rfl ?_
  refine V_cst 26 0 dX0_begin_26 rfl ?_
  refine V_putI 27 flX0_47 ft_0_6 dX0_begin_27 rfl ?_
  refine V_aload_n 30 0 dX0_begin_30 rfl ?_
  refine V_getR 31 flX0_9 dX0_begin_31 rfl ?_
  refine V_cst 34 4294967295 dX0_begin_34 rfl ?_
  refine V_sv 35 msX0_25 dX0_begin_35 (w_fit.mono (by omega) hE) (c_fill (d := d) (a := 55) (nn := 12) rfl (by decide)) rfl (Nat.le_of_ble_eq_true rfl) ?_
  rintro _ I1 _ ⟨rfl, rfl, h1⟩
  refine V_aload_n 38 0 dX0_begin_38 rfl ?_
  refine V_getR 39 flX0_15 dX0_begin_39 rfl ?_
  refine V_cst 42 0 dX0_begin_42 rfl ?_
  refine V_sv 43 msX0_25 dX0_begin_43 (w_fit.mono (by omega) hE) (c_fill (d := d) (a := 56) (nn := 12) rfl (by decide)) rfl (Nat.le_of_ble_eq_true rfl) ?_
  rintro _ I2 _ ⟨rfl, rfl, h2⟩
  refine V_aload_n 46 0 dX0_begin_46 rfl ?_
  refine V_getR 47 flX0_18 dX0_begin_47 rfl ?_
  refine V_cst 50 0 dX0_begin_50 rfl ?_
  refine V_sv 51 msX0_25 dX0_begin_51 (w_fit.mono (by omega) hE) (c_fill (d := d) (a := 57) (nn := 12) rfl (by decide)) rfl (Nat.le_of_ble_eq_true rfl) ?_
  rintro _ I3 _ ⟨rfl, rfl, h3⟩
  refine V_ret 54 dX0_begin_54 rfl ⟨rfl, rfl, ?_, ?_⟩
  · have e0 : I3 54 = w_put (w_put (w_put (w_put (w_put (w_put I 54 1 0) 54 2 0) 54 3 0) 54 4 0) 54 5 0) 54 6 0 54 := by rw [h3, w_row_ne _ _ (by decide), h2, w_row_ne _ _ (by decide), h1, w_row_ne _ _ (by decide)]
    have e1 : ∀ j, j < 12 → I3 55 j = mI := fun j hj => by rw [h3, w_row_ne _ _ (by decide), h2, w_row_ne _ _ (by decide), h1, w_row_at]; exact if_pos hj
    have e2 : ∀ j, j < 12 → I3 56 j = 0 := fun j hj => by rw [h3, w_row_ne _ _ (by decide), h2, w_row_at]; exact if_pos hj
    have e3 : ∀ j, j < 12 → I3 57 j = 0 := fun j hj => by rw [h3, w_row_at]; exact if_pos hj
    refine cv_eq (s_new_wf _) (fun k hk => ?_) (fun k j hk hj => ?_)
    · rw [e0]
      rcases (show k = 0 ∨ k = 1 ∨ k = 2 ∨ k = 3 ∨ k = 4 ∨ k = 5 ∨ k = 6 by omega) with rfl | rfl | rfl | rfl | rfl | rfl | rfl <;> rfl
    · rcases (show k = 0 ∨ k = 1 ∨ k = 2 by omega) with rfl | rfl | rfl
      · rw [w_put_other _ (Or.inl (by decide))]
        unfold s_new
        rw [if_pos ⟨rfl, hj⟩]
        exact e1 j hj
      · exact e2 j hj
      · exact e3 j hj
  · rw [h3, h2, h1]
    exact (((((((((Fr.rf.put (by decide) (by decide)).put (by decide) (by decide)).put (by decide) (by decide)).put (by decide) (by decide)).put (by decide) (by decide)).put (by decide) (by decide)).row (by decide) (by decide)).row (by decide) (by decide)).row (by decide) (by decide))
theorem c_stateOf_54 {I : w_I} {p : Nat} (hp : p < 12) (hC : COK (cv 54 I)) : FnI Ω d mX0_stateOf [.ref (Ω.1 + 54), .int (nI p)] (SH u v) I L (fun r S' I' L' => r = nI (if I 54 5 &&& 2 ^ p ≠ 0 then 2 else if I 54 4 &&& 2 ^ p ≠ 0 then 1 else 0) ∧ S' = SH u v ∧ I = I' ∧ L = L') := by
  have h1 : I 54 4 < 4096 := hC.2.1
  have h2 : I 54 5 < 4096 := hC.2.2.1
  refine FnR_of okX0_stateOf (Nat.le_of_ble_eq_true rfl) fun l z => ?_
  show V _ _ _ _ _ _ _ _ 0 [(0, _), (1, _)] []
  refine V_cst 0 1 dX0_stateOf_0 rfl ?_
  refine V_iload_n 1 1 dX0_stateOf_1 rfl ?_
  refine V_shl 2 dX0_stateOf_2 (by omega) ?_
  refine V_istore_n 3 [(0, _), (1, _), (2, _)] dX0_stateOf_3 (by decide) rfl ?_
  refine V_aload_n 4 0 dX0_stateOf_4 rfl ?_
  refine V_getI 5 flX0_44 dX0_stateOf_5 rfl ?_
  refine V_iload_n 8 2 dX0_stateOf_8 rfl ?_
  refine V_and 9 dX0_stateOf_9 ?_
  rw [Nat.one_mul]
  refine V_zN_eq 10 15 dX0_stateOf_10 (by decide) (and_lt1 (by omega)) (fun c1 => ?_) (fun c1 => ?_)
  · refine V_aload_n 15 0 dX0_stateOf_15 rfl ?_
    refine V_getI 16 flX0_41 dX0_stateOf_16 rfl ?_
    refine V_iload_n 19 2 dX0_stateOf_19 rfl ?_
    refine V_and 20 dX0_stateOf_20 ?_
    refine V_zN_eq 21 28 dX0_stateOf_21 (by decide) (and_lt1 (by omega)) (fun c2 => ?_) (fun c2 => ?_)
    · refine V_cst 28 0 dX0_stateOf_28 rfl ?_
      exact V_iret 29 dX0_stateOf_29 rfl ⟨by rw [if_neg (fun e => e c1), if_neg (fun e => e c2)], rfl, rfl, rfl⟩
    · refine V_cst 24 1 dX0_stateOf_24 rfl ?_
      refine V_goto 25 29 dX0_stateOf_25 (by decide) ?_
      exact V_iret 29 dX0_stateOf_29 rfl ⟨by rw [if_neg (fun e => e c1), if_pos c2], rfl, rfl, rfl⟩
  · refine V_cst 13 2 dX0_stateOf_13 rfl ?_
    exact V_iret 14 dX0_stateOf_14 rfl ⟨by rw [if_pos c1], rfl, rfl, rfl⟩
end
