section
variable {Ω : w_O} {d u v : Nat} {L : w_L} {E : w_E} {P Y C R : w_R} {t : Nat} {σ : w_Z}
/-- a saying of the image -/
def MI4 (Y : w_R) (I : w_I) (s : Nat) : Prop := I 98 (4 * s) = Y 1 s ∧ I 98 (4 * s + 1) = Y 2 s ∧ I 98 (4 * s + 2) = Y 3 s ∧ I 98 (4 * s + 3) = Y 4 s
theorem im_l (h60 : Y 0 0 ≤ 60) : ∀ (n j : Nat) (I : w_I), j + n = Y 0 0 → MY Y I → (∀ s, s < j → MI4 Y I s) →
    (∀ I' x, (∀ s, s < Y 0 0 → MI4 Y I' s) → (∀ i, i ≠ 98 → I' i = I i) → V mX8_image E Ω 0 0 (SH u v) I' L 102 [(0, .ref (Ω.1 + 63)), (1, .int (nI x))] []) →
    V mX8_image E Ω 0 0 (SH u v) I L 26 [(0, .ref (Ω.1 + 63)), (1, .int (nI j))] [] := by
  intro n
  induction n with
  | zero =>
    intro j I hj hY hA hk
    have e : j = Y 0 0 := by omega
    subst e
    refine V_iload_n 26 1 dX8_image_26 rfl ?_
    refine V_aload_n 27 0 dX8_image_27 rfl ?_
    refine V_getI 28 flX8_242 dX8_image_28 rfl ?_
    rw [hY.1]
    refine V_cN_ge 31 102 dX8_image_31 (by decide) (by omega) (by omega) (fun c => ?_) (fun c => ?_)
    · exact hk I _ hA (fun _ _ => rfl)
    · omega
  | succ n ih =>
    intro j I hj hY hA hk
    obtain ⟨y1, y2, y3, y4⟩ := hY.2 j (by omega)
    refine V_iload_n 26 1 dX8_image_26 rfl ?_
    refine V_aload_n 27 0 dX8_image_27 rfl ?_
    refine V_getI 28 flX8_242 dX8_image_28 rfl ?_
    rw [hY.1]
    refine V_cN_ge 31 102 dX8_image_31 (by decide) (by omega) (by omega) (fun c => ?_) (fun c => ?_)
    · omega
    refine V_aload_n 34 0 dX8_image_34 rfl ?_
    refine V_getR 35 flX8_118 dX8_image_35 rfl ?_
    refine V_cst 38 4 dX8_image_38 rfl ?_
    refine V_iload_n 39 1 dX8_image_39 rfl ?_
    refine V_mul 40 dX8_image_40 ?_
    refine V_aload_n 41 0 dX8_image_41 rfl ?_
    refine V_getR 42 flX8_40 dX8_image_42 rfl ?_
    refine V_iload_n 45 1 dX8_image_45 rfl ?_
    refine V_iald 46 dX8_image_46 rfl (by omega) (by omega) ?_
    rw [y1]
    refine V_iast 47 dX8_image_47 rfl (by omega) (by omega) ?_
    refine V_aload_n 48 0 dX8_image_48 rfl ?_
    refine V_getR 49 flX8_118 dX8_image_49 rfl ?_
    refine V_cst 52 4 dX8_image_52 rfl ?_
    refine V_iload_n 53 1 dX8_image_53 rfl ?_
    refine V_mul 54 dX8_image_54 ?_
    refine V_cst 55 1 dX8_image_55 rfl ?_
    refine V_add 56 dX8_image_56 ?_
    refine V_aload_n 57 0 dX8_image_57 rfl ?_
    refine V_getR 58 flX8_43 dX8_image_58 rfl ?_
    refine V_iload_n 61 1 dX8_image_61 rfl ?_
    refine V_iald 62 dX8_image_62 rfl (by omega) (by omega) ?_
    rw [w_put_ne _ 75 (by decide), y2]
    refine V_iast 63 dX8_image_63 rfl (by omega) (by omega) ?_
    refine V_aload_n 64 0 dX8_image_64 rfl ?_
    refine V_getR 65 flX8_118 dX8_image_65 rfl ?_
    refine V_cst 68 4 dX8_image_68 rfl ?_
    refine V_iload_n 69 1 dX8_image_69 rfl ?_
    refine V_mul 70 dX8_image_70 ?_
    refine V_cst 71 2 dX8_image_71 rfl ?_
    refine V_add 72 dX8_image_72 ?_
    refine V_aload_n 73 0 dX8_image_73 rfl ?_
    refine V_getR 74 flX8_46 dX8_image_74 rfl ?_
    refine V_iload_n 77 1 dX8_image_77 rfl ?_
    refine V_iald 78 dX8_image_78 rfl (by omega) (by omega) ?_
    rw [w_put_ne _ 76 (by decide), w_put_ne _ 76 (by decide), y3]
    refine V_iast 79 dX8_image_79 rfl (by omega) (by omega) ?_
    refine V_aload_n 80 0 dX8_image_80 rfl ?_
    refine V_getR 81 flX8_118 dX8_image_81 rfl ?_
    refine V_cst 84 4 dX8_image_84 rfl ?_
    refine V_iload_n 85 1 dX8_image_85 rfl ?_
    refine V_mul 86 dX8_image_86 ?_
    refine V_cst 87 3 dX8_image_87 rfl ?_
    refine V_add 88 dX8_image_88 ?_
    refine V_aload_n 89 0 dX8_image_89 rfl ?_
    refine V_getR 90 flX8_49 dX8_image_90 rfl ?_
    refine V_iload_n 93 1 dX8_image_93 rfl ?_
    refine V_iald 94 dX8_image_94 rfl (by omega) (by omega) ?_
    rw [w_put_ne _ 77 (by decide), w_put_ne _ 77 (by decide), w_put_ne _ 77 (by decide), y4]
    refine V_iast 95 dX8_image_95 rfl (by omega) (by omega) ?_
    refine V_inc 96 1 _ [(0, _), (1, _)] dX8_image_96 rfl rfl rfl (by decide) rfl ?_
    refine V_goto 99 26 dX8_image_99 (by decide) ?_
    have ho : ∀ i, i ≠ 98 → w_put (w_put (w_put (w_put I 98 (4 * j) (Y 1 j)) 98 (4 * j + 1) (Y 2 j)) 98 (4 * j + 2) (Y 3 j)) 98 (4 * j + 3) (Y 4 j) i = I i := fun i hi => by rw [w_put_ne _ i hi, w_put_ne _ i hi, w_put_ne _ i hi, w_put_ne _ i hi]
    refine ih (j + 1) _ (by omega) (hY.of (by rw [ho 63 (by decide)]) (fun i a b => ho i (by omega))) (fun s hs => ?_) (fun I' x h1 h2 => hk I' x h1 (fun i hi => (h2 i hi).trans (ho i hi)))
    by_cases e : s = j
    · subst e
      unfold MI4
      simp [w_put_eq]
    · obtain ⟨a1, a2, a3, a4⟩ := hA s (by omega)
      refine ⟨?_, ?_, ?_, ?_⟩
      · rw [w_put_other _ (Or.inr (by omega)), w_put_other _ (Or.inr (by omega)), w_put_other _ (Or.inr (by omega)), w_put_other _ (Or.inr (by omega))]; exact a1
      · rw [w_put_other _ (Or.inr (by omega)), w_put_other _ (Or.inr (by omega)), w_put_other _ (Or.inr (by omega)), w_put_other _ (Or.inr (by omega))]; exact a2
      · rw [w_put_other _ (Or.inr (by omega)), w_put_other _ (Or.inr (by omega)), w_put_other _ (Or.inr (by omega)), w_put_other _ (Or.inr (by omega))]; exact a3
      · rw [w_put_other _ (Or.inr (by omega)), w_put_other _ (Or.inr (by omega)), w_put_other _ (Or.inr (by omega)), w_put_other _ (Or.inr (by omega))]; exact a4
theorem m_image {I : w_I} (hO : SOK σ) (hM : MInv σ I) : FnV Ω (d + 1) mX8_image [.ref (Ω.1 + 63)] (SH u v) I L (fun S' I' L' => S' = SH u v ∧ L = L' ∧ I' 63 0 = 0 ∧ MInv (z_img σ) I' ∧ FrM I I') := by
  have h60 := hO.2.1.1
  have h12 := hO.1.2.2.2.2.1
  obtain ⟨h1, h2, h3, h4, h5, h6, h7, h8⟩ := hM
  refine FnR_of1 okX8_image (Nat.le_of_ble_eq_true rfl) fun l z hE => ?_
  show V _ _ _ _ _ _ _ _ 0 [(0, _)] []
  refine V_aload_n 0 0 dX8_image_0 rfl ?_
  refine V_cst 1 0 dX8_image_1 rfl ?_
  refine V_putI 2 flX8_128 ft_8_0 dX8_image_2 rfl ?_
  refine V_aload_n 5 0 dX8_image_5 rfl ?_
  refine V_cst 6 1 dX8_image_6 rfl ?_
  refine V_putZ 7 flX8_249 ft_8_53 dX8_image_7 rfl (by first | exact Or.inl rfl | exact Or.inr rfl | assumption) ?_
  refine V_aload_n 10 0 dX8_image_10 rfl ?_
  refine V_cst 11 0 dX8_image_11 rfl ?_
  refine V_cst 12 2 dX8_image_12 rfl ?_
  have hC0 : MC 0 (σ 0) (σ 2) (w_put (w_put I 63 0 0) 63 53 1) := h3.of (fun i a b => by rw [w_put_ne _ _ (by omega), w_put_ne _ _ (by omega)])
  refine V_vv 13 mvX8_369 dX8_image_13 ⟨_, _, _, rfl, rfl, rfl⟩ (w_fit.mono (by omega) hE) (m_copy (d := d) (f := 0) (t := 2) hO.1 (by decide) (by decide) (by decide) hC0) rfl (Nat.le_of_ble_eq_true rfl) ?_
  rintro _ I1 _ ⟨rfl, rfl, k1, k2⟩
  have e66 : I1 63 = (w_put (w_put I 63 0 0) 63 53 1) 63 := k2.1 63 (by decide)
  have e11 : I1 63 11 = σ 1 0 0 := by rw [e66, w_put_other _ (Or.inr (by decide)), w_put_other _ (Or.inr (by decide))]; exact h2.1
  have eo : ∀ i, 64 ≤ i → i < 80 ∨ 86 < i → I1 i = I i := fun i a b => by rw [k2.1 i b, w_put_ne _ _ (by omega), w_put_ne _ _ (by omega)]
  refine V_aload_n 16 0 dX8_image_16 rfl ?_
  refine V_aload_n 17 0 dX8_image_17 rfl ?_
  refine V_getI 18 flX8_242 dX8_image_18 rfl ?_
  rw [e11]
  refine V_putI 21 flX8_372 ft_8_54 dX8_image_21 rfl ?_
  refine V_cst 24 0 dX8_image_24 rfl ?_
  refine V_istore_n 25 [(0, _), (1, _)] dX8_image_25 (by decide) rfl ?_
  refine im_l (Y := σ 1) h60 (σ 1 0 0) 0 _ (by omega) (h2.of ?_ (fun i a b => ?_)) (fun s hs => absurd hs (Nat.not_lt_zero _)) (fun I2 x g1 g2 => ?_)
  · rw [w_put_other _ (Or.inr (by decide)), e11, h2.1]
  · rw [w_put_ne _ _ (by omega), eo i (by omega) (by omega)]
  have f2 : ∀ i, 64 ≤ i → i < 80 ∨ 86 < i → i ≠ 98 → I2 i = I i := fun i a b c => by rw [g2 i c, w_put_ne _ _ (by omega), eo i a b]
  have s81 : I2 78 = I 78 := f2 78 (by decide) (by decide) (by decide)
  refine V_aload_n 102 0 dX8_image_102 rfl ?_
  refine V_getR 103 flX8_121 dX8_image_103 rfl ?_
  refine V_cst 106 0 dX8_image_106 rfl ?_
  refine V_aload_n 107 0 dX8_image_107 rfl ?_
  refine V_getR 108 flX8_52 dX8_image_108 rfl ?_
  refine V_cst 111 0 dX8_image_111 rfl ?_
  refine V_iald 112 dX8_image_112 rfl (by omega) (by omega) ?_
  rw [s81, h5.2.1]
  refine V_iast 113 dX8_image_113 rfl (by omega) (by omega) ?_
  refine V_aload_n 114 0 dX8_image_114 rfl ?_
  refine V_getR 115 flX8_121 dX8_image_115 rfl ?_
  refine V_cst 118 1 dX8_image_118 rfl ?_
  refine V_aload_n 119 0 dX8_image_119 rfl ?_
  refine V_getR 120 flX8_52 dX8_image_120 rfl ?_
  refine V_cst 123 1 dX8_image_123 rfl ?_
  refine V_iald 124 dX8_image_124 rfl (by omega) (by omega) ?_
  rw [w_put_ne _ 78 (by decide), s81, h5.2.2]
  refine V_iast 125 dX8_image_125 rfl (by omega) (by omega) ?_
  have f66 : ∀ j, j ≠ 0 → j ≠ 53 → j ≠ 54 → I2 63 j = I 63 j := fun j a b c => by rw [g2 63 (by decide), w_put_other _ (Or.inr c), e66, w_put_other _ (Or.inr b), w_put_other _ (Or.inr a)]
  have t66 : ∀ x y j, (w_put (w_put I2 99 0 x) 99 1 y) 63 j = I2 63 j := fun x y j => by rw [w_put_ne _ 63 (by decide), w_put_ne _ 63 (by decide)]
  have tn : ∀ x y i, i ≠ 99 → (w_put (w_put I2 99 0 x) 99 1 y) i = I2 i := fun x y i hi => by rw [w_put_ne _ i hi, w_put_ne _ i hi]
  have cc : ∀ i, 80 ≤ i → i ≤ 84 → (w_put (w_put I2 99 0 (σ 3 3 0)) 99 1 (σ 3 4 0)) i = I1 i := fun i a b => by rw [tn _ _ i (by omega), g2 i (by omega), w_put_ne _ _ (by omega)]
  refine V_ret 126 dX8_image_126 rfl ⟨rfl, rfl, ?_, ⟨h1.of (fun i a b => ?_), h2.of ?_ (fun i a b => ?_), ?_, ?_, ?_, ?_, ?_, ?_⟩, ?_⟩
  · rw [t66, g2 63 (by decide), w_put_other _ (Or.inr (by decide)), e66, w_put_other _ (Or.inr (by decide)), w_put_same]
  · rw [tn _ _ i (by omega)]; exact f2 i (by omega) (by omega) (by omega)
  · rw [t66]; exact f66 11 (by decide) (by decide) (by decide)
  · rw [tn _ _ i (by omega)]; exact f2 i (by omega) (by omega) (by omega)
  · have : MC 0 (σ 0) (σ 2) I1 := by
      obtain ⟨a0, a1, a2⟩ := h3
      have w83 : ∀ i, 80 ≤ i → i ≤ 84 → (w_put (w_put I 63 0 0) 63 53 1) i = I i := fun i a b => by rw [w_put_ne _ _ (by omega), w_put_ne _ _ (by omega)]
      refine ⟨?_, ?_, fun p hp => ?_⟩
      · rw [(k2.2.1 0 (by decide)).1, w83 80 (by decide) (by decide)]; exact a0
      · rw [(k2.2.1 0 (by decide)).2, w83 81 (by decide) (by decide)]; exact a1
      · obtain ⟨q1, q2, q3, -⟩ := k2.2.2 (12 * 0 + p) (by omega)
        rw [q1, q2, q3, w83 82 (by decide) (by decide), w83 83 (by decide) (by decide), w83 84 (by decide) (by decide)]
        exact a2 p hp
    exact this.of cc
  · refine ⟨?_, fun j hj => ?_⟩
    · rw [t66, f66 18 (by decide) (by decide) (by decide)]; exact h4.1
    · rw [tn _ _ 79 (by decide), f2 79 (by decide) (by decide) (by decide)]; exact h4.2 j hj
  · refine ⟨?_, ?_, ?_⟩
    · rw [t66, f66 27 (by decide) (by decide) (by decide)]; exact h5.1
    · rw [tn _ _ 78 (by decide), s81]; exact h5.2.1
    · rw [tn _ _ 78 (by decide), s81]; exact h5.2.2
  · refine ⟨?_, ?_⟩
    · rw [t66, f66 41 (by decide) (by decide) (by decide)]; exact h6.1
    · rw [tn _ _ 91 (by decide), f2 91 (by decide) (by decide) (by decide)]; exact h6.2
  · refine ⟨?_, Or.inr ⟨rfl, ?_, fun s hs => ?_, ?_, ?_, ?_⟩⟩
    · rw [t66, g2 63 (by decide), w_put_other _ (Or.inr (by decide)), e66, w_put_same]; rfl
    · rw [t66, g2 63 (by decide), w_put_same]; rfl
    · rw [tn _ _ 98 (by decide)]; exact g1 s hs
    · exact k1.of cc
    · rw [w_put_other _ (Or.inr (by decide)), w_put_same]; rfl
    · rw [w_put_same]; rfl
  · exact h8.of (by rw [t66]; exact f66 52 (by decide) (by decide) (by decide)) (by rw [tn _ _ 97 (by decide)]; exact f2 97 (by decide) (by decide) (by decide))
  · refine ⟨fun i hi => ?_, ?_⟩
    · rw [tn _ _ i (by omega), g2 i (by omega), w_put_ne _ _ (by omega), k2.1 i (by omega), w_put_ne _ _ (by omega), w_put_ne _ _ (by omega)]
    · rw [t66, f66 52 (by decide) (by decide) (by decide)]; omega
theorem re_l (h60 : Y 0 0 ≤ 60) : ∀ (n j : Nat) (I : w_I), j + n = Y 0 0 → I 63 11 = Y 0 0 → (∀ s, s < Y 0 0 → MI4 Y I s) → (∀ s, s < j → I 74 s = Y 1 s ∧ I 75 s = Y 2 s ∧ I 76 s = Y 3 s ∧ I 77 s = Y 4 s) →
    (∀ I' x, MY Y I' → (∀ i, i < 74 ∨ 77 < i → I' i = I i) → V mX8_restore E Ω 0 0 (SH u v) I' L 106 [(0, .ref (Ω.1 + 63)), (1, .int (nI x))] []) →
    V mX8_restore E Ω 0 0 (SH u v) I L 30 [(0, .ref (Ω.1 + 63)), (1, .int (nI j))] [] := by
  intro n
  induction n with
  | zero =>
    intro j I hj h11 hA hB hk
    have e : j = Y 0 0 := by omega
    subst e
    refine V_iload_n 30 1 dX8_restore_30 rfl ?_
    refine V_aload_n 31 0 dX8_restore_31 rfl ?_
    refine V_getI 32 flX8_242 dX8_restore_32 rfl ?_
    rw [h11]
    refine V_cN_ge 35 106 dX8_restore_35 (by decide) (by omega) (by omega) (fun c => ?_) (fun c => ?_)
    · exact hk I _ ⟨h11, hB⟩ (fun _ _ => rfl)
    · omega
  | succ n ih =>
    intro j I hj h11 hA hB hk
    obtain ⟨y1, y2, y3, y4⟩ := hA j (by omega)
    refine V_iload_n 30 1 dX8_restore_30 rfl ?_
    refine V_aload_n 31 0 dX8_restore_31 rfl ?_
    refine V_getI 32 flX8_242 dX8_restore_32 rfl ?_
    rw [h11]
    refine V_cN_ge 35 106 dX8_restore_35 (by decide) (by omega) (by omega) (fun c => ?_) (fun c => ?_)
    · omega
    refine V_aload_n 38 0 dX8_restore_38 rfl ?_
    refine V_getR 39 flX8_40 dX8_restore_39 rfl ?_
    refine V_iload_n 42 1 dX8_restore_42 rfl ?_
    refine V_aload_n 43 0 dX8_restore_43 rfl ?_
    refine V_getR 44 flX8_118 dX8_restore_44 rfl ?_
    refine V_cst 47 4 dX8_restore_47 rfl ?_
    refine V_iload_n 48 1 dX8_restore_48 rfl ?_
    refine V_mul 49 dX8_restore_49 ?_
    refine V_iald 50 dX8_restore_50 rfl (by omega) (by omega) ?_
    rw [y1]
    refine V_iast 51 dX8_restore_51 rfl (by omega) (by omega) ?_
    refine V_aload_n 52 0 dX8_restore_52 rfl ?_
    refine V_getR 53 flX8_43 dX8_restore_53 rfl ?_
    refine V_iload_n 56 1 dX8_restore_56 rfl ?_
    refine V_aload_n 57 0 dX8_restore_57 rfl ?_
    refine V_getR 58 flX8_118 dX8_restore_58 rfl ?_
    refine V_cst 61 4 dX8_restore_61 rfl ?_
    refine V_iload_n 62 1 dX8_restore_62 rfl ?_
    refine V_mul 63 dX8_restore_63 ?_
    refine V_cst 64 1 dX8_restore_64 rfl ?_
    refine V_add 65 dX8_restore_65 ?_
    refine V_iald 66 dX8_restore_66 rfl (by omega) (by omega) ?_
    rw [w_put_ne _ 98 (by decide), y2]
    refine V_iast 67 dX8_restore_67 rfl (by omega) (by omega) ?_
    refine V_aload_n 68 0 dX8_restore_68 rfl ?_
    refine V_getR 69 flX8_46 dX8_restore_69 rfl ?_
    refine V_iload_n 72 1 dX8_restore_72 rfl ?_
    refine V_aload_n 73 0 dX8_restore_73 rfl ?_
    refine V_getR 74 flX8_118 dX8_restore_74 rfl ?_
    refine V_cst 77 4 dX8_restore_77 rfl ?_
    refine V_iload_n 78 1 dX8_restore_78 rfl ?_
    refine V_mul 79 dX8_restore_79 ?_
    refine V_cst 80 2 dX8_restore_80 rfl ?_
    refine V_add 81 dX8_restore_81 ?_
    refine V_iald 82 dX8_restore_82 rfl (by omega) (by omega) ?_
    rw [w_put_ne _ 98 (by decide), w_put_ne _ 98 (by decide), y3]
    refine V_iast 83 dX8_restore_83 rfl (by omega) (by omega) ?_
    refine V_aload_n 84 0 dX8_restore_84 rfl ?_
    refine V_getR 85 flX8_49 dX8_restore_85 rfl ?_
    refine V_iload_n 88 1 dX8_restore_88 rfl ?_
    refine V_aload_n 89 0 dX8_restore_89 rfl ?_
    refine V_getR 90 flX8_118 dX8_restore_90 rfl ?_
    refine V_cst 93 4 dX8_restore_93 rfl ?_
    refine V_iload_n 94 1 dX8_restore_94 rfl ?_
    refine V_mul 95 dX8_restore_95 ?_
    refine V_cst 96 3 dX8_restore_96 rfl ?_
    refine V_add 97 dX8_restore_97 ?_
    refine V_iald 98 dX8_restore_98 rfl (by omega) (by omega) ?_
    rw [w_put_ne _ 98 (by decide), w_put_ne _ 98 (by decide), w_put_ne _ 98 (by decide), y4]
    refine V_iast 99 dX8_restore_99 rfl (by omega) (by omega) ?_
    refine V_inc 100 1 _ [(0, _), (1, _)] dX8_restore_100 rfl rfl rfl (by decide) rfl ?_
    refine V_goto 103 30 dX8_restore_103 (by decide) ?_
    have ho : ∀ i, i < 74 ∨ 77 < i → w_put (w_put (w_put (w_put I 74 j (Y 1 j)) 75 j (Y 2 j)) 76 j (Y 3 j)) 77 j (Y 4 j) i = I i := fun i hi => by rw [w_put_ne _ i (by omega), w_put_ne _ i (by omega), w_put_ne _ i (by omega), w_put_ne _ i (by omega)]
    refine ih (j + 1) _ (by omega) (by rw [ho 63 (by decide)]; exact h11) (fun s hs => ?_) (fun s hs => ?_) (fun I' x h1 h2 => hk I' x h1 (fun i hi => (h2 i hi).trans (ho i hi)))
    · unfold MI4
      rw [ho 98 (by decide)]
      exact hA s hs
    · by_cases e : s = j
      · subst e
        simp [w_put_eq]
      · obtain ⟨a1, a2, a3, a4⟩ := hB s (by omega)
        simp [w_put_eq, e]
        exact ⟨a1, a2, a3, a4⟩
theorem m_restore0 {I : w_I} (hM : MInv σ I) (h : σ 3 5 0 = 0) : FnI Ω d mX8_restore [.ref (Ω.1 + 63)] (SH u v) I L (MO u v L I σ 0 0) := by
  have hM1 : MInv σ (w_put I 63 0 0) := hM.code
  refine FnR_of okX8_restore (Nat.le_of_ble_eq_true rfl) fun l z => ?_
  show V _ _ _ _ _ _ _ _ 0 [(0, _)] []
  refine V_aload_n 0 0 dX8_restore_0 rfl ?_
  refine V_cst 1 0 dX8_restore_1 rfl ?_
  refine V_putI 2 flX8_128 ft_8_0 dX8_restore_2 rfl ?_
  refine V_aload_n 5 0 dX8_restore_5 rfl ?_
  refine V_getI 6 flX8_249 dX8_restore_6 rfl ?_
  rw [hM1.2.2.2.2.2.2.1.1, h]
  refine V_zN_ne 9 14 dX8_restore_9 (by decide) (by omega) (fun c => ?_) (fun c => ?_)
  · exact absurd rfl c
  refine V_cst 12 0 dX8_restore_12 rfl ?_
  exact V_zret 13 dX8_restore_13 rfl rfl ⟨rfl, rfl, w_put_same _ _ _ _, fun _ => rfl, hM1, FrM.rf.put (by decide) (by decide)⟩
theorem m_restore1 {I : w_I} (hO : SOK σ) (hM : MInv σ I) (h : σ 3 5 0 ≠ 0) : FnI Ω (d + 1) mX8_restore [.ref (Ω.1 + 63)] (SH u v) I L (MO u v L I (z_res σ) 0 1) := by
  have hM1 : MInv σ (w_put I 63 0 0) := hM.code
  have h12 := hO.1.2.2.2.2.1
  have c0 : w_put I 63 0 0 63 0 = 0 := w_put_same _ _ _ _
  have hJ : FrM I (w_put I 63 0 0) := FrM.rf.put (by decide) (by decide)
  refine FnR_of1 okX8_restore (Nat.le_of_ble_eq_true rfl) fun l z hE => ?_
  show V _ _ _ _ _ _ _ _ 0 [(0, _)] []
  refine V_aload_n 0 0 dX8_restore_0 rfl ?_
  refine V_cst 1 0 dX8_restore_1 rfl ?_
  refine V_putI 2 flX8_128 ft_8_0 dX8_restore_2 rfl ?_
  generalize w_put I 63 0 0 = J at hM1 c0 hJ ⊢
  obtain ⟨h1, h2, h3, h4, h5, h6, ⟨h7, h7b⟩, h8⟩ := hM1
  rcases h7b with q | ⟨q, a1, a2, a3, a4, a5⟩
  · exact absurd q h
  have h60 : σ 4 0 0 ≤ 60 := by
    rcases hO.2.2.2.2 with w | ⟨-, w, -⟩
    · exact absurd w h
    · exact w.1
  refine V_aload_n 5 0 dX8_restore_5 rfl ?_
  refine V_getI 6 flX8_249 dX8_restore_6 rfl ?_
  rw [h7, q]
  refine V_zN_ne 9 14 dX8_restore_9 (by decide) (by omega) (fun c => ?_) (fun c => ?_)
  rotate_left
  · exact absurd c (by decide)
  refine V_aload_n 14 0 dX8_restore_14 rfl ?_
  refine V_cst 15 2 dX8_restore_15 rfl ?_
  refine V_cst 16 0 dX8_restore_16 rfl ?_
  refine V_vv 17 mvX8_369 dX8_restore_17 ⟨_, _, _, rfl, rfl, rfl⟩ (w_fit.mono (by omega) hE) (m_copy (d := d) (f := 2) (t := 0) hO.1 (by decide) (by decide) (by decide) a3) rfl (Nat.le_of_ble_eq_true rfl) ?_
  rintro _ I1 _ ⟨rfl, rfl, k1, k2⟩
  have e66 : I1 63 = J 63 := k2.1 63 (by decide)
  have eo : ∀ i, i < 80 ∨ 86 < i → I1 i = J i := fun i b => k2.1 i b
  refine V_aload_n 20 0 dX8_restore_20 rfl ?_
  refine V_aload_n 21 0 dX8_restore_21 rfl ?_
  refine V_getI 22 flX8_372 dX8_restore_22 rfl ?_
  rw [e66, a1]
  refine V_putI 25 flX8_242 ft_8_11 dX8_restore_25 rfl ?_
  refine V_cst 28 0 dX8_restore_28 rfl ?_
  refine V_istore_n 29 [(0, _), (1, _)] dX8_restore_29 (by decide) rfl ?_
  refine re_l (Y := σ 4) h60 (σ 4 0 0) 0 _ (by omega) (w_put_same _ _ _ _) (fun s hs => ?_) (fun s hs => absurd hs (Nat.not_lt_zero _)) (fun I2 x g1 g2 => ?_)
  · unfold MI4
    rw [w_put_ne _ 98 (by decide), eo 98 (by decide)]
    exact a2 s hs
  have f66 : ∀ j, j ≠ 11 → I2 63 j = J 63 j := fun j a => by rw [g2 63 (by decide), w_put_other _ (Or.inr a), e66]
  have f2 : ∀ i, 64 ≤ i → i < 74 ∨ 77 < i → i < 80 ∨ 86 < i → I2 i = J i := fun i a b c => by rw [g2 i b, w_put_ne _ _ (by omega), eo i c]
  have fc : ∀ i, 80 ≤ i → i ≤ 86 → I2 i = I1 i := fun i a b => by rw [g2 i (by omega), w_put_ne _ _ (by omega)]
  refine V_aload_n 106 0 dX8_restore_106 rfl ?_
  refine V_getR 107 flX8_52 dX8_restore_107 rfl ?_
  refine V_cst 110 0 dX8_restore_110 rfl ?_
  refine V_aload_n 111 0 dX8_restore_111 rfl ?_
  refine V_getR 112 flX8_121 dX8_restore_112 rfl ?_
  refine V_cst 115 0 dX8_restore_115 rfl ?_
  refine V_iald 116 dX8_restore_116 rfl (by omega) (by omega) ?_
  rw [f2 99 (by decide) (by decide) (by decide), a4]
  refine V_iast 117 dX8_restore_117 rfl (by omega) (by omega) ?_
  refine V_aload_n 118 0 dX8_restore_118 rfl ?_
  refine V_getR 119 flX8_52 dX8_restore_119 rfl ?_
  refine V_cst 122 1 dX8_restore_122 rfl ?_
  refine V_aload_n 123 0 dX8_restore_123 rfl ?_
  refine V_getR 124 flX8_121 dX8_restore_124 rfl ?_
  refine V_cst 127 1 dX8_restore_127 rfl ?_
  refine V_iald 128 dX8_restore_128 rfl (by omega) (by omega) ?_
  rw [w_put_ne _ 99 (by decide), f2 99 (by decide) (by decide) (by decide), a5]
  refine V_iast 129 dX8_restore_129 rfl (by omega) (by omega) ?_
  refine V_cst 130 1 dX8_restore_130 rfl ?_
  have t66 : ∀ x y j, (w_put (w_put I2 78 0 x) 78 1 y) 63 j = I2 63 j := fun x y j => by rw [w_put_ne _ 63 (by decide), w_put_ne _ 63 (by decide)]
  have tn : ∀ x y i, i ≠ 78 → (w_put (w_put I2 78 0 x) 78 1 y) i = I2 i := fun x y i hi => by rw [w_put_ne _ i hi, w_put_ne _ i hi]
  have hC2 : MC 2 (σ 0) (σ 5) I1 := by
    obtain ⟨b0, b1, b2⟩ := a3
    refine ⟨?_, ?_, fun p hp => ?_⟩
    · rw [(k2.2.1 2 (by decide)).1]; exact b0
    · rw [(k2.2.1 2 (by decide)).2]; exact b1
    · obtain ⟨q1, q2, q3, -⟩ := k2.2.2 (12 * 2 + p) (by omega)
      rw [q1, q2, q3]
      exact b2 p hp
  refine V_zret 131 dX8_restore_131 rfl rfl ⟨rfl, rfl, ?_, fun _ => rfl, ⟨h1.of (fun i a b => ?_), g1.of ?_ (fun i a b => ?_), ?_, ?_, ?_, ?_, ?_, ?_⟩, ?_⟩
  · rw [t66, f66 0 (by decide)]; exact c0
  · rw [tn _ _ i (by omega)]; exact f2 i (by omega) (by omega) (by omega)
  · rw [t66]
  · rw [tn _ _ i (by omega)]
  · exact k1.of (fun i a b => by rw [tn _ _ i (by omega), fc i (by omega) (by omega)])
  · refine ⟨?_, fun j hj => ?_⟩
    · rw [t66, f66 18 (by decide)]; exact h4.1
    · rw [tn _ _ 79 (by decide), f2 79 (by decide) (by decide) (by decide)]; exact h4.2 j hj
  · refine ⟨?_, ?_, ?_⟩
    · rw [t66, f66 27 (by decide)]; exact h5.1
    · rw [w_put_other _ (Or.inr (by decide)), w_put_same]; rfl
    · rw [w_put_same]; rfl
  · refine ⟨?_, ?_⟩
    · rw [t66, f66 41 (by decide)]; exact h6.1
    · rw [tn _ _ 91 (by decide), f2 91 (by decide) (by decide) (by decide)]; exact h6.2
  · refine ⟨?_, Or.inr ⟨q, ?_, fun s hs => ?_, ?_, ?_, ?_⟩⟩
    · rw [t66, f66 53 (by decide)]; exact h7
    · rw [t66, f66 54 (by decide)]; exact a1
    · rw [tn _ _ 98 (by decide), f2 98 (by decide) (by decide) (by decide)]; exact a2 s hs
    · exact hC2.of (fun i a b => by rw [tn _ _ i (by omega), fc i (by omega) (by omega)])
    · rw [tn _ _ 99 (by decide), f2 99 (by decide) (by decide) (by decide)]; exact a4
    · rw [tn _ _ 99 (by decide), f2 99 (by decide) (by decide) (by decide)]; exact a5
  · exact h8.of (by rw [t66]; exact f66 52 (by decide)) (by rw [tn _ _ 97 (by decide)]; exact f2 97 (by decide) (by decide) (by decide))
  · refine hJ.trans0 (fun i hi => ?_) (by rw [t66]; exact f66 52 (by decide))
    rw [tn _ _ i (by omega), g2 i (by omega), w_put_ne _ _ (by omega), eo i (by omega)]
end
