section
variable {Ω : w_O} {d u v : Nat} {L : w_L} {E : w_E} {T : Nat → Nat} {n : Nat}
theorem x_l1_0 {e hi : Nat} : x_l1 T n hi 0 e = x_num T n e 0 hi 3 := by
  unfold x_l1
  rw [if_neg (fun h => by have := h.2.2; rw [Nat.zero_testBit] at this; exact absurd this (by decide))]
theorem x_l1_oth {e a hi : Nat} (ha : a < hi) : x_l1 T n hi (2 ^ a) e = x_oth T n e a hi := by
  unfold x_l1 x_oth
  by_cases h : x_kd T n e = 2 ∧ x_va T n e = a
  · rw [if_pos h, if_pos ⟨h.1, by omega, by rw [h.2, Nat.testBit_two_pow_self]⟩]
  · rw [if_neg h, if_neg (fun w => h ⟨w.1, ?_⟩)]
    have := w.2.2
    rw [tb_p] at this
    exact (of_decide_eq_true this).symm
/-- a number of more than three digits -/
theorem x_va_long {e : Nat} (h256 : ∀ j, T j < 256) (he : e ≤ n) (hk : x_kd T n e = 2) : (x_va T n e = mI ↔ 3 < x_en T n e - x_st T n e) ∧ (x_en T n e - x_st T n e ≤ 3 → x_va T n e < 1000000) := by
  have hle : x_st T n e ≤ x_le T n e ∧ x_le T n e ≤ x_st T n e + (n - x_st T n e) := x_run_ge _ _ _ _
  have h1 : ¬ x_st T n e < x_le T n e := by
    intro w; unfold x_kd at hk; rw [if_pos w] at hk; exact absurd hk (by decide)
  have h2 : x_st T n e < x_de T n e := by
    rcases Nat.lt_or_ge (x_st T n e) (x_de T n e) with w | w
    · exact w
    · exfalso
      unfold x_kd at hk
      rw [if_neg h1, if_neg (by omega)] at hk
      split at hk
      · split at hk <;> exact absurd hk (by decide)
      · exact absurd hk (by decide)
  have ex : x_en T n e = x_de T n e := by unfold x_en; rw [if_neg h1, if_pos h2]
  have ev : x_va T n e = x_vl T (x_st T n e) (x_de T n e) := by unfold x_va; rw [if_neg h1]
  rw [ex, ev]
  unfold x_vl
  have hmI : mI = 4294967295 := rfl
  by_cases h3 : x_de T n e - x_st T n e ≤ 3
  · rw [if_pos h3]
    have := x_dec_lt h256 (x_st T n e) _ h3
    exact ⟨⟨fun w => by omega, fun w => by omega⟩, fun _ => this⟩
  · rw [if_neg h3]
    exact ⟨⟨fun w => by omega, fun w => rfl⟩, fun w => absurd w h3⟩
theorem m_readNumber0 {I : w_I} {q : Nat × Nat} {a b : Nat} (hB : BD q I) : FnI Ω d mX8_readNumber [.ref (Ω.1 + 63), .int (nI a), .int (nI b)] (SH u v) I L (fun r S' I' L' => r = nI 0 ∧ S' = SH u v ∧ I = I' ∧ L = L') := by
  obtain ⟨b1, b2, b3, b4⟩ := hB
  refine FnR_of okX8_readNumber (Nat.le_of_ble_eq_true rfl) fun l z => ?_
  show V _ _ _ _ _ _ _ _ 0 [(0, _), (1, _), (2, _)] []
  refine V_aload_n 0 0 dX8_readNumber_0 rfl ?_
  refine V_getI 1 flX8_173 dX8_readNumber_1 rfl ?_
  rw [b1]
  refine V_zN_eq 4 9 dX8_readNumber_4 (by decide) (by omega) (fun c => ?_) (fun c => ?_)
  · omega
  refine V_cst 7 0 dX8_readNumber_7 rfl ?_
  exact V_iret 8 dX8_readNumber_8 rfl ⟨rfl, rfl, rfl, rfl⟩
theorem m_readOne0 {I : w_I} {q : Nat × Nat} {a b : Nat} (hB : BD q I) : FnI Ω d mX8_readOne [.ref (Ω.1 + 63), .int (nI a), .int (nI b)] (SH u v) I L (fun r S' I' L' => r = nI 0 ∧ S' = SH u v ∧ I = I' ∧ L = L') := by
  obtain ⟨b1, b2, b3, b4⟩ := hB
  refine FnR_of okX8_readOne (Nat.le_of_ble_eq_true rfl) fun l z => ?_
  show V _ _ _ _ _ _ _ _ 0 [(0, _), (1, _), (2, _)] []
  refine V_aload_n 0 0 dX8_readOne_0 rfl ?_
  refine V_getI 1 flX8_173 dX8_readOne_1 rfl ?_
  rw [b1]
  refine V_zN_eq 4 9 dX8_readOne_4 (by decide) (by omega) (fun c => ?_) (fun c => ?_)
  · omega
  refine V_cst 7 0 dX8_readOne_7 rfl ?_
  exact V_iret 8 dX8_readOne_8 rfl ⟨rfl, rfl, rfl, rfl⟩
/-- what a number read answers -/
abbrev RN (u v : Nat) (T : Nat → Nat) (n : Nat) (L : w_L) (I : w_I) (x : x_E (Nat × Nat)) : Int32 → List w_SC → w_I → w_L → Prop := fun r S' I' L' => S' = SH u v ∧ L = L' ∧ FrX I I' ∧ ((∃ q, x = .ok q ∧ r = nI q.1 ∧ GD T n q.2 I') ∨ (∃ q, x = .error q ∧ BD q I' ∧ ∃ y, r = nI y))
theorem m_readNumber1 {I : w_I} {e lo top : Nat} (h256 : ∀ j, T j < 256) (hlo : lo < 1000) (htop : top < 1000) (hG : GD T n e I) (hT : MTX T n I) : FnI Ω (d + 2) mX8_readNumber [.ref (Ω.1 + 63), .int (nI lo), .int (nI top)] (SH u v) I L (RN u v T n L I (x_num T n e lo (top + 1) 2)) := by
  have hkd := x_kd_lt (T := T) (n := n) e
  obtain ⟨l1, l2, l3⟩ := x_en_le (T := T) hG.2.2
  have hn := hT.1
  obtain ⟨r1, r2, r3, r4, r5⟩ := hG.2.1
  refine FnR_of1 okX8_readNumber (Nat.le_of_ble_eq_true rfl) fun l z hE => ?_
  show V _ _ _ _ _ _ _ _ 0 [(0, _), (1, _), (2, _)] []
  have bad : ∀ f, 1 ≤ f → f ≤ 5 → x_num T n e lo (top + 1) 2 = .error (f, x_st T n e) → V mX8_readNumber (w_Er l (d + 2) 0 0 Ω (w_pi (RN u v T n L I (x_num T n e lo (top + 1) 2))) z) Ω 0 0 (SH u v) (w_put (w_put I 63 25 f) 63 26 (I 63 23)) L 59 [(0, .ref (Ω.1 + 63)), (1, .int (nI lo)), (2, .int (nI top))] [] := by
    intro f h1 h5 hx
    obtain ⟨b1, b2⟩ := BD.wrong hG h1 h5
    refine V_aload_n 59 0 dX8_readNumber_59 rfl ?_
    refine V_getI 60 flX8_161 dX8_readNumber_60 rfl ?_
    refine V_istore_n 63 [(0, _), (1, _), (2, _), (3, _)] dX8_readNumber_63 (by decide) rfl ?_
    refine V_aload_n 64 0 dX8_readNumber_64 rfl ?_
    refine V_getI 65 flX8_173 dX8_readNumber_65 rfl ?_
    rw [b1.1]
    refine V_zN_ne 68 75 dX8_readNumber_68 (by decide) (by omega) (fun c => ?_) (fun c => ?_)
    rotate_left
    · exact absurd c (by show f ≠ 0; omega)
    refine V_iload_n 75 3 dX8_readNumber_75 rfl ?_
    exact V_iret 76 dX8_readNumber_76 rfl ⟨rfl, rfl, b2, Or.inr ⟨_, hx, b1, _, rfl⟩⟩
  refine V_aload_n 0 0 dX8_readNumber_0 rfl ?_
  refine V_getI 1 flX8_173 dX8_readNumber_1 rfl ?_
  rw [hG.1]
  refine V_zN_eq 4 9 dX8_readNumber_4 (by decide) (by omega) (fun c => ?_) (fun c => ?_)
  rotate_left
  · exact absurd rfl c
  refine V_aload_n 9 0 dX8_readNumber_9 rfl ?_
  refine V_getI 10 flX8_151 dX8_readNumber_10 rfl ?_
  refine V_cst 13 2 dX8_readNumber_13 rfl ?_
  rw [r1]
  refine V_cN_eq 14 25 dX8_readNumber_14 (by decide) (by omega) (by omega) (fun c1 => ?_) (fun c1 => ?_)
  rotate_left
  · refine V_aload_n 17 0 dX8_readNumber_17 rfl ?_
    refine V_cst 18 1 dX8_readNumber_18 rfl ?_
    refine V_vv 19 mvX8_196 dX8_readNumber_19 ⟨_, _, _, rfl, rfl, rfl⟩ (w_fit.mono (by omega) hE) (m_wrong (d := d) (f := 1) hG.1) rfl (Nat.le_of_ble_eq_true rfl) ?_
    rintro _ I1 _ ⟨rfl, rfl, rfl⟩
    refine V_goto 22 59 dX8_readNumber_22 (by decide) ?_
    exact bad 1 (by decide) (by decide) (by unfold x_num; rw [if_pos c1])
  obtain ⟨v1, v2⟩ := x_va_long h256 hG.2.2 c1
  have w54 : x_num T n e lo (top + 1) 2 = .error (2, x_st T n e) → V mX8_readNumber (w_Er l (d + 2) 0 0 Ω (w_pi (RN u v T n L I (x_num T n e lo (top + 1) 2))) z) Ω 0 0 (SH u v) I L 54 [(0, .ref (Ω.1 + 63)), (1, .int (nI lo)), (2, .int (nI top))] [] := by
    intro hx
    refine V_aload_n 54 0 dX8_readNumber_54 rfl ?_
    refine V_cst 55 2 dX8_readNumber_55 rfl ?_
    refine V_vv 56 mvX8_196 dX8_readNumber_56 ⟨_, _, _, rfl, rfl, rfl⟩ (w_fit.mono (by omega) hE) (m_wrong (d := d) (f := 2) hG.1) rfl (Nat.le_of_ble_eq_true rfl) ?_
    rintro _ I1 _ ⟨rfl, rfl, rfl⟩
    exact bad 2 (by decide) (by decide) hx
  refine V_aload_n 25 0 dX8_readNumber_25 rfl ?_
  refine V_getI 26 flX8_170 dX8_readNumber_26 rfl ?_
  refine V_aload_n 29 0 dX8_readNumber_29 rfl ?_
  refine V_getI 30 flX8_148 dX8_readNumber_30 rfl ?_
  rw [r2, r3]
  refine V_sub1 33 dX8_readNumber_33 (by omega) ?_
  refine V_cst 34 3 dX8_readNumber_34 rfl ?_
  refine V_cN_gt 35 54 dX8_readNumber_35 (by decide) (by omega) (by omega) (fun c2 => ?_) (fun c2 => ?_)
  · exact w54 (by unfold x_num; rw [if_neg (fun w => w c1), if_pos (v1.mpr (by omega))])
  have e22 := r5 c1 (by omega)
  have hv := v2 (by omega)
  have hne : x_va T n e ≠ mI := fun w => by have := v1.mp w; omega
  refine V_aload_n 38 0 dX8_readNumber_38 rfl ?_
  refine V_getI 39 flX8_161 dX8_readNumber_39 rfl ?_
  refine V_iload_n 42 1 dX8_readNumber_42 rfl ?_
  rw [e22]
  refine V_cN_lt 43 54 dX8_readNumber_43 (by decide) (by omega) (by omega) (fun c3 => ?_) (fun c3 => ?_)
  · exact w54 (by unfold x_num; rw [if_neg (fun w => w c1), if_neg hne, if_pos (by omega)])
  refine V_aload_n 46 0 dX8_readNumber_46 rfl ?_
  refine V_getI 47 flX8_161 dX8_readNumber_47 rfl ?_
  refine V_iload_n 50 2 dX8_readNumber_50 rfl ?_
  rw [e22]
  refine V_cN_le 51 59 dX8_readNumber_51 (by decide) (by omega) (by omega) (fun c4 => ?_) (fun c4 => ?_)
  rotate_left
  · exact w54 (by unfold x_num; rw [if_neg (fun w => w c1), if_neg hne, if_pos (by omega)])
  refine V_aload_n 59 0 dX8_readNumber_59 rfl ?_
  refine V_getI 60 flX8_161 dX8_readNumber_60 rfl ?_
  rw [e22]
  refine V_istore_n 63 [(0, _), (1, _), (2, _), (3, _)] dX8_readNumber_63 (by decide) rfl ?_
  refine V_aload_n 64 0 dX8_readNumber_64 rfl ?_
  refine V_getI 65 flX8_173 dX8_readNumber_65 rfl ?_
  rw [hG.1]
  refine V_zN_ne 68 75 dX8_readNumber_68 (by decide) (by omega) (fun c5 => ?_) (fun c5 => ?_)
  · exact absurd rfl c5
  refine V_aload_n 71 0 dX8_readNumber_71 rfl ?_
  refine V_vv 72 mvX8_193 dX8_readNumber_72 ⟨_, _, _, rfl, rfl, rfl⟩ (w_fit.mono (by omega) hE) (m_stepOn (d := d) r4 l3 hT) rfl (Nat.le_of_ble_eq_true rfl) ?_
  rintro _ I1 _ ⟨rfl, rfl, k1, k2⟩
  refine V_iload_n 75 3 dX8_readNumber_75 rfl ?_
  exact V_iret 76 dX8_readNumber_76 rfl ⟨rfl, rfl, k2.x, Or.inl ⟨_, by unfold x_num; rw [if_neg (fun w => w c1), if_neg hne, if_neg (by omega)], rfl, hG.step k1 k2⟩⟩
theorem m_readOne1 {I : w_I} {e hi b : Nat} (h256 : ∀ j, T j < 256) (hhi : hi ≤ 12) (hb : b < 4096) (hG : GD T n e I) (hT : MTX T n I) : FnI Ω (d + 2) mX8_readOne [.ref (Ω.1 + 63), .int (nI hi), .int (nI b)] (SH u v) I L (RN u v T n L I (x_l1 T n hi b e)) := by
  have hkd := x_kd_lt (T := T) (n := n) e
  obtain ⟨l1, l2, l3⟩ := x_en_le (T := T) hG.2.2
  have hn := hT.1
  obtain ⟨r1, r2, r3, r4, r5⟩ := hG.2.1
  refine FnR_of1 okX8_readOne (Nat.le_of_ble_eq_true rfl) fun l z hE => ?_
  show V _ _ _ _ _ _ _ _ 0 [(0, _), (1, _), (2, _)] []
  have bad : ∀ f, 1 ≤ f → f ≤ 5 → x_l1 T n hi b e = .error (f, x_st T n e) → V mX8_readOne (w_Er l (d + 2) 0 0 Ω (w_pi (RN u v T n L I (x_l1 T n hi b e))) z) Ω 0 0 (SH u v) (w_put (w_put I 63 25 f) 63 26 (I 63 23)) L 79 [(0, .ref (Ω.1 + 63)), (1, .int (nI hi)), (2, .int (nI b))] [] := by
    intro f h1 h5 hx
    obtain ⟨b1, b2⟩ := BD.wrong hG h1 h5
    refine V_aload_n 79 0 dX8_readOne_79 rfl ?_
    refine V_getI 80 flX8_161 dX8_readOne_80 rfl ?_
    refine V_istore_n 83 [(0, _), (1, _), (2, _), (3, _)] dX8_readOne_83 (by decide) rfl ?_
    refine V_aload_n 84 0 dX8_readOne_84 rfl ?_
    refine V_getI 85 flX8_173 dX8_readOne_85 rfl ?_
    rw [b1.1]
    refine V_zN_ne 88 95 dX8_readOne_88 (by decide) (by omega) (fun c => ?_) (fun c => ?_)
    rotate_left
    · exact absurd c (by show f ≠ 0; omega)
    refine V_iload_n 95 3 dX8_readOne_95 rfl ?_
    exact V_iret 96 dX8_readOne_96 rfl ⟨rfl, rfl, b2, Or.inr ⟨_, hx, b1, _, rfl⟩⟩
  refine V_aload_n 0 0 dX8_readOne_0 rfl ?_
  refine V_getI 1 flX8_173 dX8_readOne_1 rfl ?_
  rw [hG.1]
  refine V_zN_eq 4 9 dX8_readOne_4 (by decide) (by omega) (fun c => ?_) (fun c => ?_)
  rotate_left
  · exact absurd rfl c
  refine V_aload_n 9 0 dX8_readOne_9 rfl ?_
  refine V_getI 10 flX8_151 dX8_readOne_10 rfl ?_
  refine V_cst 13 2 dX8_readOne_13 rfl ?_
  rw [r1]
  refine V_cN_eq 14 25 dX8_readOne_14 (by decide) (by omega) (by omega) (fun c1 => ?_) (fun c1 => ?_)
  rotate_left
  · refine V_aload_n 17 0 dX8_readOne_17 rfl ?_
    refine V_cst 18 1 dX8_readOne_18 rfl ?_
    refine V_vv 19 mvX8_196 dX8_readOne_19 ⟨_, _, _, rfl, rfl, rfl⟩ (w_fit.mono (by omega) hE) (m_wrong (d := d) (f := 1) hG.1) rfl (Nat.le_of_ble_eq_true rfl) ?_
    rintro _ I1 _ ⟨rfl, rfl, rfl⟩
    refine V_goto 22 79 dX8_readOne_22 (by decide) ?_
    exact bad 1 (by decide) (by decide) (by unfold x_l1 x_num; rw [if_neg (fun w => c1 w.1), if_pos c1])
  obtain ⟨v1, v2⟩ := x_va_long h256 hG.2.2 c1
  refine V_aload_n 25 0 dX8_readOne_25 rfl ?_
  refine V_getI 26 flX8_170 dX8_readOne_26 rfl ?_
  refine V_aload_n 29 0 dX8_readOne_29 rfl ?_
  refine V_getI 30 flX8_148 dX8_readOne_30 rfl ?_
  rw [r2, r3]
  refine V_sub1 33 dX8_readOne_33 (by omega) ?_
  refine V_cst 34 3 dX8_readOne_34 rfl ?_
  refine V_cN_le 35 46 dX8_readOne_35 (by decide) (by omega) (by omega) (fun c2 => ?_) (fun c2 => ?_)
  rotate_left
  · have hm : x_va T n e = mI := v1.mpr (by omega)
    have hmI : mI = 4294967295 := rfl
    refine V_aload_n 38 0 dX8_readOne_38 rfl ?_
    refine V_cst 39 2 dX8_readOne_39 rfl ?_
    refine V_vv 40 mvX8_196 dX8_readOne_40 ⟨_, _, _, rfl, rfl, rfl⟩ (w_fit.mono (by omega) hE) (m_wrong (d := d) (f := 2) hG.1) rfl (Nat.le_of_ble_eq_true rfl) ?_
    rintro _ I1 _ ⟨rfl, rfl, rfl⟩
    refine V_goto 43 79 dX8_readOne_43 (by decide) ?_
    exact bad 2 (by decide) (by decide) (by unfold x_l1 x_num; rw [if_neg (fun w => by have := w.2.1; omega), if_neg (fun w => w c1), if_pos hm])
  have e22 := r5 c1 (by omega)
  have hv := v2 (by omega)
  have hne : x_va T n e ≠ mI := fun w => by have := v1.mp w; omega
  refine V_aload_n 46 0 dX8_readOne_46 rfl ?_
  refine V_getI 47 flX8_161 dX8_readOne_47 rfl ?_
  refine V_iload_n 50 1 dX8_readOne_50 rfl ?_
  rw [e22]
  refine V_cN_lt 51 62 dX8_readOne_51 (by decide) (by omega) (by omega) (fun c3 => ?_) (fun c3 => ?_)
  rotate_left
  · refine V_aload_n 54 0 dX8_readOne_54 rfl ?_
    refine V_cst 55 3 dX8_readOne_55 rfl ?_
    refine V_vv 56 mvX8_196 dX8_readOne_56 ⟨_, _, _, rfl, rfl, rfl⟩ (w_fit.mono (by omega) hE) (m_wrong (d := d) (f := 3) hG.1) rfl (Nat.le_of_ble_eq_true rfl) ?_
    rintro _ I1 _ ⟨rfl, rfl, rfl⟩
    refine V_goto 59 79 dX8_readOne_59 (by decide) ?_
    exact bad 3 (by decide) (by decide) (by unfold x_l1 x_num; rw [if_neg (fun w => by have := w.2.1; omega), if_neg (fun w => w c1), if_neg hne, if_pos (by omega)])
  refine V_iload_n 62 2 dX8_readOne_62 rfl ?_
  refine V_aload_n 63 0 dX8_readOne_63 rfl ?_
  refine V_getI 64 flX8_161 dX8_readOne_64 rfl ?_
  rw [e22]
  refine V_shr 67 dX8_readOne_67 (by omega) (by omega) ?_
  refine V_cst 68 1 dX8_readOne_68 rfl ?_
  refine V_and 69 dX8_readOne_69 ?_
  refine V_cst 70 1 dX8_readOne_70 rfl ?_
  have hbit : (b / 2 ^ x_va T n e) &&& 1 < 2 := and_lt2 (by decide)
  refine V_cN_ne 71 79 dX8_readOne_71 (by decide) (by omega) (by omega) (fun c4 => ?_) (fun c4 => ?_)
  · have ht : b.testBit (x_va T n e) = false := by
      cases h : b.testBit (x_va T n e)
      · rfl
      · exfalso
        have := (bitN_iff b (x_va T n e)).mpr h
        unfold bitN at this
        omega
    refine V_aload_n 79 0 dX8_readOne_79 rfl ?_
    refine V_getI 80 flX8_161 dX8_readOne_80 rfl ?_
    rw [e22]
    refine V_istore_n 83 [(0, _), (1, _), (2, _), (3, _)] dX8_readOne_83 (by decide) rfl ?_
    refine V_aload_n 84 0 dX8_readOne_84 rfl ?_
    refine V_getI 85 flX8_173 dX8_readOne_85 rfl ?_
    rw [hG.1]
    refine V_zN_ne 88 95 dX8_readOne_88 (by decide) (by omega) (fun c5 => ?_) (fun c5 => ?_)
    · exact absurd rfl c5
    refine V_aload_n 91 0 dX8_readOne_91 rfl ?_
    refine V_vv 92 mvX8_193 dX8_readOne_92 ⟨_, _, _, rfl, rfl, rfl⟩ (w_fit.mono (by omega) hE) (m_stepOn (d := d) r4 l3 hT) rfl (Nat.le_of_ble_eq_true rfl) ?_
    rintro _ I1 _ ⟨rfl, rfl, k1, k2⟩
    refine V_iload_n 95 3 dX8_readOne_95 rfl ?_
    exact V_iret 96 dX8_readOne_96 rfl ⟨rfl, rfl, k2.x, Or.inl ⟨_, by unfold x_l1 x_num; rw [if_neg (fun w => by rw [ht] at w; exact absurd w.2.2 (by decide)), if_neg (fun w => w c1), if_neg hne, if_neg (by omega)], rfl, hG.step k1 k2⟩⟩
  · have ht : b.testBit (x_va T n e) = true := by
      apply (bitN_iff b (x_va T n e)).mp
      unfold bitN
      omega
    refine V_aload_n 74 0 dX8_readOne_74 rfl ?_
    refine V_cst 75 4 dX8_readOne_75 rfl ?_
    refine V_vv 76 mvX8_196 dX8_readOne_76 ⟨_, _, _, rfl, rfl, rfl⟩ (w_fit.mono (by omega) hE) (m_wrong (d := d) (f := 4) hG.1) rfl (Nat.le_of_ble_eq_true rfl) ?_
    rintro _ I1 _ ⟨rfl, rfl, rfl⟩
    exact bad 4 (by decide) (by decide) (by unfold x_l1; rw [if_pos ⟨c1, by omega, ht⟩])
end
