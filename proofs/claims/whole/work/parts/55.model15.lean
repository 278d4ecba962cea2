section
variable {Ω : w_O} {d u v : Nat} {L : w_L} {E : w_E} {P Y C : w_R} {t : Nat} {σ : w_Z}
theorem lp_if {j q a b : Nat} {x y z : Nat} (h1 : q ≠ j → y = z) (h2 : q = j → y = x) (hx : a = if j + 1 ≤ q then x else y) (hb : b = if j ≤ q then x else z) : a = b := by
  rw [hx, hb]
  by_cases e : q = j
  · rw [if_neg (by omega), if_pos (by omega), h2 e]
  · by_cases e2 : j ≤ q
    · rw [if_pos (by omega), if_pos e2]
    · rw [if_neg (by omega), if_neg e2, h1 e]
theorem lp_if2 {j q a b : Nat} {x x' y z : Nat} (hxx : x' = x) (h1 : q ≠ j → y = z) (h2 : q = j → y = x) (hx : a = if j + 1 ≤ q then x' else y) (hb : b = if j ≤ q then x else z) : a = b := lp_if h1 h2 (by rw [← hxx]; exact hx) hb
theorem bg_l : ∀ (n j : Nat) (I : w_I), t < 3 → j + n = 12 →
    (∀ I', (∀ q, q < 12 → I' 82 (12 * t + q) = (if j ≤ q then 0 else I 82 (12 * t + q)) ∧ I' 83 (12 * t + q) = (if j ≤ q then mI else I 83 (12 * t + q)) ∧ I' 84 (12 * t + q) = (if j ≤ q then 0 else I 84 (12 * t + q)) ∧ I' 85 (12 * t + q) = (if j ≤ q then 0 else I 85 (12 * t + q))) → I' 80 = I 80 → I' 81 = I 81 → FrD t I I' → V mX8_begin E Ω 0 0 (SH u v) I' L 63 [(0, .ref (Ω.1 + 63)), (1, .int (nI t)), (2, .int (nI (12 * t + 12)))] []) →
    V mX8_begin E Ω 0 0 (SH u v) I L 19 [(0, .ref (Ω.1 + 63)), (1, .int (nI t)), (2, .int (nI (12 * t + j)))] [] := by
  intro n
  induction n with
  | zero =>
    intro j I ht hj hk
    have e : j = 12 := by omega
    subst e
    refine V_iload_n 19 2 dX8_begin_19 rfl ?_
    refine V_bip 20 12 dX8_begin_20 rfl ?_
    refine V_iload_n 22 1 dX8_begin_22 rfl ?_
    refine V_cst 23 1 dX8_begin_23 rfl ?_
    refine V_add 24 dX8_begin_24 ?_
    refine V_mul 25 dX8_begin_25 ?_
    refine V_cN_ge 26 63 dX8_begin_26 (by decide) (by omega) (by omega) (fun c => ?_) (fun c => ?_)
    · exact hk I (fun q hq => by rw [if_neg (by omega), if_neg (by omega), if_neg (by omega), if_neg (by omega)]; exact ⟨rfl, rfl, rfl, rfl⟩) rfl rfl FrD.rf
    · omega
  | succ n ih =>
    intro j I ht hj hk
    refine V_iload_n 19 2 dX8_begin_19 rfl ?_
    refine V_bip 20 12 dX8_begin_20 rfl ?_
    refine V_iload_n 22 1 dX8_begin_22 rfl ?_
    refine V_cst 23 1 dX8_begin_23 rfl ?_
    refine V_add 24 dX8_begin_24 ?_
    refine V_mul 25 dX8_begin_25 ?_
    refine V_cN_ge 26 63 dX8_begin_26 (by decide) (by omega) (by omega) (fun c => ?_) (fun c => ?_)
    · omega
    refine V_aload_n 29 0 dX8_begin_29 rfl ?_
    refine V_getR 30 flX8_68 dX8_begin_30 rfl ?_
    refine V_iload_n 33 2 dX8_begin_33 rfl ?_
    refine V_cst 34 0 dX8_begin_34 rfl ?_
    refine V_iast 35 dX8_begin_35 rfl (by omega) (by omega) ?_
    refine V_aload_n 36 0 dX8_begin_36 rfl ?_
    refine V_getR 37 flX8_71 dX8_begin_37 rfl ?_
    refine V_iload_n 40 2 dX8_begin_40 rfl ?_
    refine V_cst 41 4294967295 dX8_begin_41 rfl ?_
    refine V_iast 42 dX8_begin_42 rfl (by omega) (by omega) ?_
    refine V_aload_n 43 0 dX8_begin_43 rfl ?_
    refine V_getR 44 flX8_74 dX8_begin_44 rfl ?_
    refine V_iload_n 47 2 dX8_begin_47 rfl ?_
    refine V_cst 48 0 dX8_begin_48 rfl ?_
    refine V_iast 49 dX8_begin_49 rfl (by omega) (by omega) ?_
    refine V_aload_n 50 0 dX8_begin_50 rfl ?_
    refine V_getR 51 flX8_77 dX8_begin_51 rfl ?_
    refine V_iload_n 54 2 dX8_begin_54 rfl ?_
    refine V_cst 55 0 dX8_begin_55 rfl ?_
    refine V_iast 56 dX8_begin_56 rfl (by omega) (by omega) ?_
    refine V_inc 57 2 _ [(0, _), (1, _), (2, _)] dX8_begin_57 rfl rfl rfl (by decide) rfl ?_
    refine V_goto 60 19 dX8_begin_60 (by decide) ?_
    have hf : FrD t I (w_put (w_put (w_put (w_put I 82 (12 * t + j) 0) 83 (12 * t + j) mI) 84 (12 * t + j) 0) 85 (12 * t + j) 0) := (((FrD.rf.put (by decide) (by decide) (by omega) (by omega)).put (by decide) (by decide) (by omega) (by omega)).put (by decide) (by decide) (by omega) (by omega)).put (by decide) (by decide) (by omega) (by omega)
    refine ih (j + 1) _ ht (by omega) (fun I' k1 k2 k3 k4 => hk I' (fun q hq => ?_) ?_ ?_ (hf.trans k4))
    · obtain ⟨a1, a2, a3, a4⟩ := k1 q hq
      refine ⟨lp_if (fun e => ?_) (fun e => ?_) a1 rfl, lp_if (fun e => ?_) (fun e => ?_) a2 rfl, lp_if (fun e => ?_) (fun e => ?_) a3 rfl, lp_if (fun e => ?_) (fun e => ?_) a4 rfl⟩ <;> simp [w_put_eq, e]
    · rw [k2, w_put_ne _ 80 (by decide), w_put_ne _ 80 (by decide), w_put_ne _ 80 (by decide), w_put_ne _ 80 (by decide)]
    · rw [k3, w_put_ne _ 81 (by decide), w_put_ne _ 81 (by decide), w_put_ne _ 81 (by decide), w_put_ne _ 81 (by decide)]
theorem m_begin {I : w_I} (ht : t < 3) : FnV Ω d mX8_begin [.ref (Ω.1 + 63), .int (nI t)] (SH u v) I L (fun S' I' L' => S' = SH u v ∧ L = L' ∧ I' 80 t = 0 ∧ I' 81 t = 0 ∧ (∀ q, q < 12 → I' 82 (12 * t + q) = 0 ∧ I' 83 (12 * t + q) = mI ∧ I' 84 (12 * t + q) = 0 ∧ I' 85 (12 * t + q) = 0) ∧ FrD t I I') := by
  refine FnR_of okX8_begin (Nat.le_of_ble_eq_true rfl) fun l z => ?_
  show V _ _ _ _ _ _ _ _ 0 [(0, _), (1, _)] []
  refine V_aload_n 0 0 dX8_begin_0 rfl ?_
  refine V_getR 1 flX8_62 dX8_begin_1 rfl ?_
  refine V_iload_n 4 1 dX8_begin_4 rfl ?_
  refine V_cst 5 0 dX8_begin_5 rfl ?_
  refine V_iast 6 dX8_begin_6 rfl (by omega) (by omega) ?_
  refine V_aload_n 7 0 dX8_begin_7 rfl ?_
  refine V_getR 8 flX8_65 dX8_begin_8 rfl ?_
  refine V_iload_n 11 1 dX8_begin_11 rfl ?_
  refine V_cst 12 0 dX8_begin_12 rfl ?_
  refine V_iast 13 dX8_begin_13 rfl (by omega) (by omega) ?_
  refine V_bip 14 12 dX8_begin_14 rfl ?_
  refine V_iload_n 16 1 dX8_begin_16 rfl ?_
  refine V_mul 17 dX8_begin_17 ?_
  refine V_istore_n 18 [(0, _), (1, _), (2, _)] dX8_begin_18 (by decide) rfl ?_
  have hf : FrD t I (w_put (w_put I 80 t 0) 81 t 0) := FrD.rf.p83.p84
  refine bg_l 12 0 _ ht (by omega) (fun I' k1 k2 k3 k4 => ?_)
  refine V_ret 63 dX8_begin_63 rfl ⟨rfl, rfl, ?_, ?_, fun q hq => ?_, hf.trans k4⟩
  · rw [k2, w_put_ne _ 80 (by decide), w_put_same]
  · rw [k3, w_put_same]
  · obtain ⟨a1, a2, a3, a4⟩ := k1 q hq
    rw [a1, a2, a3, a4, if_pos (Nat.zero_le _), if_pos (Nat.zero_le _), if_pos (Nat.zero_le _), if_pos (Nat.zero_le _)]
    exact ⟨rfl, rfl, rfl, rfl⟩
theorem s_new_MC {I : w_I} (h12 : P 6 0 ≤ 12) (h0 : I 80 t = 0) (h1 : I 81 t = 0) (h : ∀ q, q < 12 → I 82 (12 * t + q) = 0 ∧ I 83 (12 * t + q) = mI ∧ I 84 (12 * t + q) = 0 ∧ I 85 (12 * t + q) = 0) : MC t P s_new I := by
  refine ⟨h0, h1, fun p hp => ?_⟩
  obtain ⟨a1, a2, a3, -⟩ := h p (by omega)
  rw [a1, a2, a3]
  refine ⟨?_, ?_, ?_⟩
  · unfold q_st s_new
    simp
  · unfold s_new
    rw [if_pos ⟨rfl, by omega⟩]
  · unfold s_new
    rw [if_neg (fun w => absurd w.1 (by decide))]
/-! copy -/
theorem cp_l {f : Nat} (hf3 : f < 3) (hne : f ≠ t) : ∀ (n j : Nat) (I : w_I), t < 3 → j + n = 12 →
    (∀ I', (∀ q, q < 12 → I' 82 (12 * t + q) = (if j ≤ q then I 82 (12 * f + q) else I 82 (12 * t + q)) ∧ I' 83 (12 * t + q) = (if j ≤ q then I 83 (12 * f + q) else I 83 (12 * t + q)) ∧ I' 84 (12 * t + q) = (if j ≤ q then I 84 (12 * f + q) else I 84 (12 * t + q)) ∧ I' 85 (12 * t + q) = (if j ≤ q then I 85 (12 * f + q) else I 85 (12 * t + q))) → I' 80 = I 80 → I' 81 = I 81 → I' 86 = I 86 → FrD t I I' → V mX8_copy E Ω 0 0 (SH u v) I' L 126 [(0, .ref (Ω.1 + 63)), (1, .int (nI f)), (2, .int (nI t)), (3, .int (nI 12))] []) →
    V mX8_copy E Ω 0 0 (SH u v) I L 26 [(0, .ref (Ω.1 + 63)), (1, .int (nI f)), (2, .int (nI t)), (3, .int (nI j))] [] := by
  intro n
  induction n with
  | zero =>
    intro j I ht hj hk
    have e : j = 12 := by omega
    subst e
    refine V_iload_n 26 3 dX8_copy_26 rfl ?_
    refine V_bip 27 12 dX8_copy_27 rfl ?_
    refine V_cN_ge 29 126 dX8_copy_29 (by decide) (by omega) (by omega) (fun c => ?_) (fun c => ?_)
    · exact hk I (fun q hq => by rw [if_neg (by omega), if_neg (by omega), if_neg (by omega), if_neg (by omega)]; exact ⟨rfl, rfl, rfl, rfl⟩) rfl rfl rfl FrD.rf
    · omega
  | succ n ih =>
    intro j I ht hj hk
    refine V_iload_n 26 3 dX8_copy_26 rfl ?_
    refine V_bip 27 12 dX8_copy_27 rfl ?_
    refine V_cN_ge 29 126 dX8_copy_29 (by decide) (by omega) (by omega) (fun c => ?_) (fun c => ?_)
    · omega
    refine V_aload_n 32 0 dX8_copy_32 rfl ?_
    refine V_getR 33 flX8_68 dX8_copy_33 rfl ?_
    refine V_bip 36 12 dX8_copy_36 rfl ?_
    refine V_iload_n 38 2 dX8_copy_38 rfl ?_
    refine V_mul 39 dX8_copy_39 ?_
    refine V_iload_n 40 3 dX8_copy_40 rfl ?_
    refine V_add 41 dX8_copy_41 ?_
    refine V_aload_n 42 0 dX8_copy_42 rfl ?_
    refine V_getR 43 flX8_68 dX8_copy_43 rfl ?_
    refine V_bip 46 12 dX8_copy_46 rfl ?_
    refine V_iload_n 48 1 dX8_copy_48 rfl ?_
    refine V_mul 49 dX8_copy_49 ?_
    refine V_iload_n 50 3 dX8_copy_50 rfl ?_
    refine V_add 51 dX8_copy_51 ?_
    refine V_iald 52 dX8_copy_52 rfl (by omega) (by omega) ?_
    have hft : ∀ q, q < 12 → ¬ (12 * f + q = 12 * t + j) := fun q hq => by omega
    refine V_iast 53 dX8_copy_53 rfl (by omega) (by omega) ?_
    refine V_aload_n 54 0 dX8_copy_54 rfl ?_
    refine V_getR 55 flX8_71 dX8_copy_55 rfl ?_
    refine V_bip 58 12 dX8_copy_58 rfl ?_
    refine V_iload_n 60 2 dX8_copy_60 rfl ?_
    refine V_mul 61 dX8_copy_61 ?_
    refine V_iload_n 62 3 dX8_copy_62 rfl ?_
    refine V_add 63 dX8_copy_63 ?_
    refine V_aload_n 64 0 dX8_copy_64 rfl ?_
    refine V_getR 65 flX8_71 dX8_copy_65 rfl ?_
    refine V_bip 68 12 dX8_copy_68 rfl ?_
    refine V_iload_n 70 1 dX8_copy_70 rfl ?_
    refine V_mul 71 dX8_copy_71 ?_
    refine V_iload_n 72 3 dX8_copy_72 rfl ?_
    refine V_add 73 dX8_copy_73 ?_
    refine V_iald 74 dX8_copy_74 rfl (by omega) (by omega) ?_
    rw [w_put_ne _ 83 (by decide)]
    refine V_iast 75 dX8_copy_75 rfl (by omega) (by omega) ?_
    refine V_aload_n 76 0 dX8_copy_76 rfl ?_
    refine V_getR 77 flX8_74 dX8_copy_77 rfl ?_
    refine V_bip 80 12 dX8_copy_80 rfl ?_
    refine V_iload_n 82 2 dX8_copy_82 rfl ?_
    refine V_mul 83 dX8_copy_83 ?_
    refine V_iload_n 84 3 dX8_copy_84 rfl ?_
    refine V_add 85 dX8_copy_85 ?_
    refine V_aload_n 86 0 dX8_copy_86 rfl ?_
    refine V_getR 87 flX8_74 dX8_copy_87 rfl ?_
    refine V_bip 90 12 dX8_copy_90 rfl ?_
    refine V_iload_n 92 1 dX8_copy_92 rfl ?_
    refine V_mul 93 dX8_copy_93 ?_
    refine V_iload_n 94 3 dX8_copy_94 rfl ?_
    refine V_add 95 dX8_copy_95 ?_
    refine V_iald 96 dX8_copy_96 rfl (by omega) (by omega) ?_
    rw [w_put_ne _ 84 (by decide), w_put_ne _ 84 (by decide)]
    refine V_iast 97 dX8_copy_97 rfl (by omega) (by omega) ?_
    refine V_aload_n 98 0 dX8_copy_98 rfl ?_
    refine V_getR 99 flX8_77 dX8_copy_99 rfl ?_
    refine V_bip 102 12 dX8_copy_102 rfl ?_
    refine V_iload_n 104 2 dX8_copy_104 rfl ?_
    refine V_mul 105 dX8_copy_105 ?_
    refine V_iload_n 106 3 dX8_copy_106 rfl ?_
    refine V_add 107 dX8_copy_107 ?_
    refine V_aload_n 108 0 dX8_copy_108 rfl ?_
    refine V_getR 109 flX8_77 dX8_copy_109 rfl ?_
    refine V_bip 112 12 dX8_copy_112 rfl ?_
    refine V_iload_n 114 1 dX8_copy_114 rfl ?_
    refine V_mul 115 dX8_copy_115 ?_
    refine V_iload_n 116 3 dX8_copy_116 rfl ?_
    refine V_add 117 dX8_copy_117 ?_
    refine V_iald 118 dX8_copy_118 rfl (by omega) (by omega) ?_
    rw [w_put_ne _ 85 (by decide), w_put_ne _ 85 (by decide), w_put_ne _ 85 (by decide)]
    refine V_iast 119 dX8_copy_119 rfl (by omega) (by omega) ?_
    refine V_inc 120 3 _ [(0, _), (1, _), (2, _), (3, _)] dX8_copy_120 rfl rfl rfl (by decide) rfl ?_
    refine V_goto 123 26 dX8_copy_123 (by decide) ?_
    have hf : FrD t I (w_put (w_put (w_put (w_put I 82 (12 * t + j) (I 82 (12 * f + j))) 83 (12 * t + j) (I 83 (12 * f + j))) 84 (12 * t + j) (I 84 (12 * f + j))) 85 (12 * t + j) (I 85 (12 * f + j))) := (((FrD.rf.put (by decide) (by decide) (by omega) (by omega)).put (by decide) (by decide) (by omega) (by omega)).put (by decide) (by decide) (by omega) (by omega)).put (by decide) (by decide) (by omega) (by omega)
    refine ih (j + 1) _ ht (by omega) (fun I' k1 k2 k3 k5 k4 => hk I' (fun q hq => ?_) ?_ ?_ ?_ (hf.trans k4))
    · obtain ⟨a1, a2, a3, a4⟩ := k1 q hq
      have e0 := hft q hq
      refine ⟨lp_if2 ?_ (fun e => ?_) (fun e => ?_) a1 rfl, lp_if2 ?_ (fun e => ?_) (fun e => ?_) a2 rfl, lp_if2 ?_ (fun e => ?_) (fun e => ?_) a3 rfl, lp_if2 ?_ (fun e => ?_) (fun e => ?_) a4 rfl⟩
      all_goals simp [w_put_eq, e0]
      all_goals first | (rw [if_pos e, e]; done) | (intro w; exact absurd w e)
    · rw [k2, w_put_ne _ 80 (by decide), w_put_ne _ 80 (by decide), w_put_ne _ 80 (by decide), w_put_ne _ 80 (by decide)]
    · rw [k3, w_put_ne _ 81 (by decide), w_put_ne _ 81 (by decide), w_put_ne _ 81 (by decide), w_put_ne _ 81 (by decide)]
    · rw [k5, w_put_ne _ 86 (by decide), w_put_ne _ 86 (by decide), w_put_ne _ 86 (by decide), w_put_ne _ 86 (by decide)]
theorem m_copy {I : w_I} {f : Nat} (hP : s_POK P) (hf3 : f < 3) (hne : f ≠ t) (ht : t < 3) (hM : MC f P C I) : FnV Ω d mX8_copy [.ref (Ω.1 + 63), .int (nI f), .int (nI t)] (SH u v) I L (fun S' I' L' => S' = SH u v ∧ L = L' ∧ MC t P C I' ∧ FrD t I I') := by
  have h12 := hP.2.2.2.2.1
  refine FnR_of okX8_copy (Nat.le_of_ble_eq_true rfl) fun l z => ?_
  show V _ _ _ _ _ _ _ _ 0 [(0, _), (1, _), (2, _)] []
  refine V_aload_n 0 0 dX8_copy_0 rfl ?_
  refine V_getR 1 flX8_62 dX8_copy_1 rfl ?_
  refine V_iload_n 4 2 dX8_copy_4 rfl ?_
  refine V_aload_n 5 0 dX8_copy_5 rfl ?_
  refine V_getR 6 flX8_62 dX8_copy_6 rfl ?_
  refine V_iload_n 9 1 dX8_copy_9 rfl ?_
  refine V_iald 10 dX8_copy_10 rfl (by omega) (by omega) ?_
  refine V_iast 11 dX8_copy_11 rfl (by omega) (by omega) ?_
  refine V_aload_n 12 0 dX8_copy_12 rfl ?_
  refine V_getR 13 flX8_65 dX8_copy_13 rfl ?_
  refine V_iload_n 16 2 dX8_copy_16 rfl ?_
  refine V_aload_n 17 0 dX8_copy_17 rfl ?_
  refine V_getR 18 flX8_65 dX8_copy_18 rfl ?_
  refine V_iload_n 21 1 dX8_copy_21 rfl ?_
  refine V_iald 22 dX8_copy_22 rfl (by omega) (by omega) ?_
  rw [w_put_ne _ 81 (by decide)]
  refine V_iast 23 dX8_copy_23 rfl (by omega) (by omega) ?_
  refine V_cst 24 0 dX8_copy_24 rfl ?_
  refine V_istore_n 25 [(0, _), (1, _), (2, _), (3, _)] dX8_copy_25 (by decide) rfl ?_
  have hf : FrD t I (w_put (w_put I 80 t (I 80 f)) 81 t (I 81 f)) := FrD.rf.p83.p84
  refine cp_l hf3 hne 12 0 _ ht (by omega) (fun I' k1 k2 k3 _ k4 => ?_)
  obtain ⟨m0, m1, m2⟩ := hM
  refine V_ret 126 dX8_copy_126 rfl ⟨rfl, rfl, ⟨?_, ?_, fun q hq => ?_⟩, hf.trans k4⟩
  · rw [k2, w_put_ne _ 80 (by decide), w_put_same, m0]
  · rw [k3, w_put_same, m1]
  · obtain ⟨a1, a2, a3, a4⟩ := k1 q (by omega)
    obtain ⟨b1, b2, b3⟩ := m2 q hq
    rw [a1, a2, a3, if_pos (Nat.zero_le _), if_pos (Nat.zero_le _), if_pos (Nat.zero_le _)]
    rw [w_put_ne _ 82 (by decide), w_put_ne _ 82 (by decide), w_put_ne _ 83 (by decide), w_put_ne _ 83 (by decide), w_put_ne _ 84 (by decide), w_put_ne _ 84 (by decide)]
    exact ⟨b1, b2, b3⟩
end
