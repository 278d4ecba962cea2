section
variable {Ω : w_O} {d u v : Nat} {L : w_L} {E : w_E} {T : Nat → Nat} {n : Nat} {P : w_R} {σ : w_Z}
/-! take -/
theorem tk2_l : ∀ (n j : Nat) (J : w_I), j + n = 6 →
    (∀ J', (∀ q, q < 6 → J' 65 q = if j ≤ q then J 65 (6 + q) else J 65 q) → (∀ i, i ≠ 65 → J' i = J i) → V mX8_take E Ω 0 0 (SH u v) J' L 56 [(0, .ref (Ω.1 + 63)), (1, .int (nI 6))] []) →
    V mX8_take E Ω 0 0 (SH u v) J L 29 [(0, .ref (Ω.1 + 63)), (1, .int (nI j))] [] := by
  intro n
  induction n with
  | zero =>
    intro j J hj hk
    have e : j = 6 := by omega
    subst e
    refine V_iload_n 29 1 dX8_take_29 rfl ?_
    refine V_bip 30 6 dX8_take_30 rfl ?_
    refine V_cN_ge 32 56 dX8_take_32 (by decide) (by omega) (by omega) (fun c => ?_) (fun c => ?_)
    · exact hk J (fun q hq => by rw [if_neg (by omega)]) (fun _ _ => rfl)
    · omega
  | succ n ih =>
    intro j J hj hk
    refine V_iload_n 29 1 dX8_take_29 rfl ?_
    refine V_bip 30 6 dX8_take_30 rfl ?_
    refine V_cN_ge 32 56 dX8_take_32 (by decide) (by omega) (by omega) (fun c => ?_) (fun c => ?_)
    · omega
    refine V_aload_n 35 0 dX8_take_35 rfl ?_
    refine V_getR 36 flX8_13 dX8_take_36 rfl ?_
    refine V_iload_n 39 1 dX8_take_39 rfl ?_
    refine V_aload_n 40 0 dX8_take_40 rfl ?_
    refine V_getR 41 flX8_13 dX8_take_41 rfl ?_
    refine V_bip 44 6 dX8_take_44 rfl ?_
    refine V_iload_n 46 1 dX8_take_46 rfl ?_
    refine V_add 47 dX8_take_47 ?_
    refine V_iald 48 dX8_take_48 rfl (by omega) (by omega) ?_
    refine V_iast 49 dX8_take_49 rfl (by omega) (by omega) ?_
    refine V_inc 50 1 _ [(0, _), (1, _)] dX8_take_50 rfl rfl rfl (by decide) rfl ?_
    refine V_goto 53 29 dX8_take_53 (by decide) ?_
    refine ih (j + 1) _ (by omega) (fun J' h1 h2 => hk J' (fun q hq => ?_) (fun i hi => ?_))
    · refine lp_if2 ?_ (fun e => ?_) (fun e => ?_) (h1 q hq) rfl
      · rw [w_put_other _ (Or.inr (by omega))]
      · rw [w_put_other _ (Or.inr e)]
      · rw [e, w_put_same]
    · rw [h2 i hi, w_put_ne _ _ hi]
theorem tk3_l : ∀ (n j : Nat) (J : w_I), j + n = 12 →
    (∀ J', (∀ i, 66 ≤ i → i ≤ 68 → ∀ q, q < 12 → J' i q = if j ≤ q then J i (12 + q) else J i q) → (∀ i, i < 66 ∨ 68 < i → J' i = J i) → V mX8_take E Ω 0 0 (SH u v) J' L 115 [(0, .ref (Ω.1 + 63)), (1, .int (nI 12))] []) →
    V mX8_take E Ω 0 0 (SH u v) J L 58 [(0, .ref (Ω.1 + 63)), (1, .int (nI j))] [] := by
  intro n
  induction n with
  | zero =>
    intro j J hj hk
    have e : j = 12 := by omega
    subst e
    refine V_iload_n 58 1 dX8_take_58 rfl ?_
    refine V_bip 59 12 dX8_take_59 rfl ?_
    refine V_cN_ge 61 115 dX8_take_61 (by decide) (by omega) (by omega) (fun c => ?_) (fun c => ?_)
    · exact hk J (fun i _ _ q hq => by rw [if_neg (by omega)]) (fun _ _ => rfl)
    · omega
  | succ n ih =>
    intro j J hj hk
    refine V_iload_n 58 1 dX8_take_58 rfl ?_
    refine V_bip 59 12 dX8_take_59 rfl ?_
    refine V_cN_ge 61 115 dX8_take_61 (by decide) (by omega) (by omega) (fun c => ?_) (fun c => ?_)
    · omega
    refine V_aload_n 64 0 dX8_take_64 rfl ?_
    refine V_getR 65 flX8_16 dX8_take_65 rfl ?_
    refine V_iload_n 68 1 dX8_take_68 rfl ?_
    refine V_aload_n 69 0 dX8_take_69 rfl ?_
    refine V_getR 70 flX8_16 dX8_take_70 rfl ?_
    refine V_bip 73 12 dX8_take_73 rfl ?_
    refine V_iload_n 75 1 dX8_take_75 rfl ?_
    refine V_add 76 dX8_take_76 ?_
    refine V_iald 77 dX8_take_77 rfl (by omega) (by omega) ?_
    refine V_iast 78 dX8_take_78 rfl (by omega) (by omega) ?_
    refine V_aload_n 79 0 dX8_take_79 rfl ?_
    refine V_getR 80 flX8_19 dX8_take_80 rfl ?_
    refine V_iload_n 83 1 dX8_take_83 rfl ?_
    refine V_aload_n 84 0 dX8_take_84 rfl ?_
    refine V_getR 85 flX8_19 dX8_take_85 rfl ?_
    refine V_bip 88 12 dX8_take_88 rfl ?_
    refine V_iload_n 90 1 dX8_take_90 rfl ?_
    refine V_add 91 dX8_take_91 ?_
    refine V_iald 92 dX8_take_92 rfl (by omega) (by omega) ?_
    rw [w_put_ne _ 67 (by decide)]
    refine V_iast 93 dX8_take_93 rfl (by omega) (by omega) ?_
    refine V_aload_n 94 0 dX8_take_94 rfl ?_
    refine V_getR 95 flX8_22 dX8_take_95 rfl ?_
    refine V_iload_n 98 1 dX8_take_98 rfl ?_
    refine V_aload_n 99 0 dX8_take_99 rfl ?_
    refine V_getR 100 flX8_22 dX8_take_100 rfl ?_
    refine V_bip 103 12 dX8_take_103 rfl ?_
    refine V_iload_n 105 1 dX8_take_105 rfl ?_
    refine V_add 106 dX8_take_106 ?_
    refine V_iald 107 dX8_take_107 rfl (by omega) (by omega) ?_
    rw [w_put_ne _ 68 (by decide), w_put_ne _ 68 (by decide)]
    refine V_iast 108 dX8_take_108 rfl (by omega) (by omega) ?_
    refine V_inc 109 1 _ [(0, _), (1, _)] dX8_take_109 rfl rfl rfl (by decide) rfl ?_
    refine V_goto 112 58 dX8_take_112 (by decide) ?_
    refine ih (j + 1) _ (by omega) (fun J' h1 h2 => hk J' (fun i a b q hq => ?_) (fun i hi => ?_))
    · refine lp_if2 ?_ (fun e => ?_) (fun e => ?_) (h1 i a b q hq) rfl
      · rw [w_put_other _ (Or.inr (by omega)), w_put_other _ (Or.inr (by omega)), w_put_other _ (Or.inr (by omega))]
      · rw [w_put_other _ (Or.inr e), w_put_other _ (Or.inr e), w_put_other _ (Or.inr e)]
      · subst e
        rcases (show i = 66 ∨ i = 67 ∨ i = 68 by omega) with rfl | rfl | rfl <;> simp [w_put_eq]
    · rw [h2 i hi, w_put_ne _ _ (by omega), w_put_ne _ _ (by omega), w_put_ne _ _ (by omega)]
theorem tk4_l : ∀ (n j : Nat) (J : w_I), j + n = 12 →
    (∀ J', (∀ i, 69 ≤ i → i ≤ 73 → ∀ q, q < 12 → J' i q = if j ≤ q then J i (12 + q) else J i q) → (∀ i, i < 69 ∨ 73 < i → J' i = J i) → V mX8_take E Ω 0 0 (SH u v) J' L 204 [(0, .ref (Ω.1 + 63)), (1, .int (nI 12))] []) →
    V mX8_take E Ω 0 0 (SH u v) J L 117 [(0, .ref (Ω.1 + 63)), (1, .int (nI j))] [] := by
  intro n
  induction n with
  | zero =>
    intro j J hj hk
    have e : j = 12 := by omega
    subst e
    refine V_iload_n 117 1 dX8_take_117 rfl ?_
    refine V_bip 118 12 dX8_take_118 rfl ?_
    refine V_cN_ge 120 204 dX8_take_120 (by decide) (by omega) (by omega) (fun c => ?_) (fun c => ?_)
    · exact hk J (fun i _ _ q hq => by rw [if_neg (by omega)]) (fun _ _ => rfl)
    · omega
  | succ n ih =>
    intro j J hj hk
    refine V_iload_n 117 1 dX8_take_117 rfl ?_
    refine V_bip 118 12 dX8_take_118 rfl ?_
    refine V_cN_ge 120 204 dX8_take_120 (by decide) (by omega) (by omega) (fun c => ?_) (fun c => ?_)
    · omega
    refine V_aload_n 123 0 dX8_take_123 rfl ?_
    refine V_getR 124 flX8_25 dX8_take_124 rfl ?_
    refine V_iload_n 127 1 dX8_take_127 rfl ?_
    refine V_aload_n 128 0 dX8_take_128 rfl ?_
    refine V_getR 129 flX8_25 dX8_take_129 rfl ?_
    refine V_bip 132 12 dX8_take_132 rfl ?_
    refine V_iload_n 134 1 dX8_take_134 rfl ?_
    refine V_add 135 dX8_take_135 ?_
    refine V_iald 136 dX8_take_136 rfl (by omega) (by omega) ?_
    refine V_iast 137 dX8_take_137 rfl (by omega) (by omega) ?_
    refine V_aload_n 138 0 dX8_take_138 rfl ?_
    refine V_getR 139 flX8_28 dX8_take_139 rfl ?_
    refine V_iload_n 142 1 dX8_take_142 rfl ?_
    refine V_aload_n 143 0 dX8_take_143 rfl ?_
    refine V_getR 144 flX8_28 dX8_take_144 rfl ?_
    refine V_bip 147 12 dX8_take_147 rfl ?_
    refine V_iload_n 149 1 dX8_take_149 rfl ?_
    refine V_add 150 dX8_take_150 ?_
    refine V_iald 151 dX8_take_151 rfl (by omega) (by omega) ?_
    rw [w_put_ne _ 70 (by decide)]
    refine V_iast 152 dX8_take_152 rfl (by omega) (by omega) ?_
    refine V_aload_n 153 0 dX8_take_153 rfl ?_
    refine V_getR 154 flX8_31 dX8_take_154 rfl ?_
    refine V_iload_n 157 1 dX8_take_157 rfl ?_
    refine V_aload_n 158 0 dX8_take_158 rfl ?_
    refine V_getR 159 flX8_31 dX8_take_159 rfl ?_
    refine V_bip 162 12 dX8_take_162 rfl ?_
    refine V_iload_n 164 1 dX8_take_164 rfl ?_
    refine V_add 165 dX8_take_165 ?_
    refine V_iald 166 dX8_take_166 rfl (by omega) (by omega) ?_
    rw [w_put_ne _ 71 (by decide), w_put_ne _ 71 (by decide)]
    refine V_iast 167 dX8_take_167 rfl (by omega) (by omega) ?_
    refine V_aload_n 168 0 dX8_take_168 rfl ?_
    refine V_getR 169 flX8_34 dX8_take_169 rfl ?_
    refine V_iload_n 172 1 dX8_take_172 rfl ?_
    refine V_aload_n 173 0 dX8_take_173 rfl ?_
    refine V_getR 174 flX8_34 dX8_take_174 rfl ?_
    refine V_bip 177 12 dX8_take_177 rfl ?_
    refine V_iload_n 179 1 dX8_take_179 rfl ?_
    refine V_add 180 dX8_take_180 ?_
    refine V_iald 181 dX8_take_181 rfl (by omega) (by omega) ?_
    rw [w_put_ne _ 72 (by decide), w_put_ne _ 72 (by decide), w_put_ne _ 72 (by decide)]
    refine V_iast 182 dX8_take_182 rfl (by omega) (by omega) ?_
    refine V_aload_n 183 0 dX8_take_183 rfl ?_
    refine V_getR 184 flX8_37 dX8_take_184 rfl ?_
    refine V_iload_n 187 1 dX8_take_187 rfl ?_
    refine V_aload_n 188 0 dX8_take_188 rfl ?_
    refine V_getR 189 flX8_37 dX8_take_189 rfl ?_
    refine V_bip 192 12 dX8_take_192 rfl ?_
    refine V_iload_n 194 1 dX8_take_194 rfl ?_
    refine V_add 195 dX8_take_195 ?_
    refine V_iald 196 dX8_take_196 rfl (by omega) (by omega) ?_
    rw [w_put_ne _ 73 (by decide), w_put_ne _ 73 (by decide), w_put_ne _ 73 (by decide), w_put_ne _ 73 (by decide)]
    refine V_iast 197 dX8_take_197 rfl (by omega) (by omega) ?_
    refine V_inc 198 1 _ [(0, _), (1, _)] dX8_take_198 rfl rfl rfl (by decide) rfl ?_
    refine V_goto 201 117 dX8_take_201 (by decide) ?_
    refine ih (j + 1) _ (by omega) (fun J' h1 h2 => hk J' (fun i a b q hq => ?_) (fun i hi => ?_))
    · refine lp_if2 ?_ (fun e => ?_) (fun e => ?_) (h1 i a b q hq) rfl
      · rw [w_put_other _ (Or.inr (by omega)), w_put_other _ (Or.inr (by omega)), w_put_other _ (Or.inr (by omega)), w_put_other _ (Or.inr (by omega)), w_put_other _ (Or.inr (by omega))]
      · rw [w_put_other _ (Or.inr e), w_put_other _ (Or.inr e), w_put_other _ (Or.inr e), w_put_other _ (Or.inr e), w_put_other _ (Or.inr e)]
      · subst e
        rcases (show i = 69 ∨ i = 70 ∨ i = 71 ∨ i = 72 ∨ i = 73 by omega) with rfl | rfl | rfl | rfl | rfl <;> simp [w_put_eq]
    · rw [h2 i hi, w_put_ne _ _ (by omega), w_put_ne _ _ (by omega), w_put_ne _ _ (by omega), w_put_ne _ _ (by omega), w_put_ne _ _ (by omega)]
theorem m_take {I : w_I} (hP : s_POK P) (hM : MPX P I) : FnV Ω (d + 1) mX8_take [.ref (Ω.1 + 63)] (SH u v) I L (fun S' I' L' => S' = SH u v ∧ L = L' ∧ MP P I' ∧ MC 0 P s_new I' ∧ (∀ j, j ≠ 11 → j ≠ 41 → j ≠ 53 → I' 63 j = I 63 j) ∧ I' 63 11 = 0 ∧ I' 63 41 = 0 ∧ I' 63 53 = 0 ∧ ∀ i, i < 63 ∨ (73 < i ∧ i < 80) ∨ 86 < i → I' i = I i) := by
  have hm12 := hP.2.2.1
  have hp12 := hP.2.2.2.2.1
  obtain ⟨x0, x1, x2, x3, x4, x5⟩ := hM
  refine FnR_of1 okX8_take (Nat.le_of_ble_eq_true rfl) fun l z hE => ?_
  show V _ _ _ _ _ _ _ _ 0 [(0, _)] []
  refine V_cst 0 0 dX8_take_0 rfl ?_
  refine V_istore_n 1 [(0, _), (1, _)] dX8_take_1 (by decide) rfl ?_
  refine V_iload_n 2 1 dX8_take_2 rfl ?_
  refine V_cst 3 3 dX8_take_3 rfl ?_
  refine V_cN_ge 4 27 dX8_take_4 (by decide) (by omega) (by omega) (fun c => ?_) (fun c => ?_)
  · omega
  refine V_aload_n 7 0 dX8_take_7 rfl ?_
  refine V_getR 8 flX8_7 dX8_take_8 rfl ?_
  refine V_iload_n 11 1 dX8_take_11 rfl ?_
  refine V_aload_n 12 0 dX8_take_12 rfl ?_
  refine V_getR 13 flX8_7 dX8_take_13 rfl ?_
  refine V_cst 16 3 dX8_take_16 rfl ?_
  refine V_iload_n 17 1 dX8_take_17 rfl ?_
  refine V_add 18 dX8_take_18 ?_
  refine V_iald 19 dX8_take_19 rfl (by omega) (by omega) ?_
  rw [x0]
  refine V_iast 20 dX8_take_20 rfl (by omega) (by omega) ?_
  refine V_inc 21 1 _ [(0, _), (1, _)] dX8_take_21 rfl rfl rfl (by decide) rfl ?_
  refine V_goto 24 2 dX8_take_24 (by decide) ?_
  refine V_iload_n 2 1 dX8_take_2 rfl ?_
  refine V_cst 3 3 dX8_take_3 rfl ?_
  refine V_cN_ge 4 27 dX8_take_4 (by decide) (by omega) (by omega) (fun c => ?_) (fun c => ?_)
  · omega
  refine V_aload_n 7 0 dX8_take_7 rfl ?_
  refine V_getR 8 flX8_7 dX8_take_8 rfl ?_
  refine V_iload_n 11 1 dX8_take_11 rfl ?_
  refine V_aload_n 12 0 dX8_take_12 rfl ?_
  refine V_getR 13 flX8_7 dX8_take_13 rfl ?_
  refine V_cst 16 3 dX8_take_16 rfl ?_
  refine V_iload_n 17 1 dX8_take_17 rfl ?_
  refine V_add 18 dX8_take_18 ?_
  refine V_iald 19 dX8_take_19 rfl (by omega) (by omega) ?_
  rw [w_put_other _ (Or.inr (by decide)), x1]
  refine V_iast 20 dX8_take_20 rfl (by omega) (by omega) ?_
  refine V_inc 21 1 _ [(0, _), (1, _)] dX8_take_21 rfl rfl rfl (by decide) rfl ?_
  refine V_goto 24 2 dX8_take_24 (by decide) ?_
  refine V_iload_n 2 1 dX8_take_2 rfl ?_
  refine V_cst 3 3 dX8_take_3 rfl ?_
  refine V_cN_ge 4 27 dX8_take_4 (by decide) (by omega) (by omega) (fun c => ?_) (fun c => ?_)
  · omega
  refine V_aload_n 7 0 dX8_take_7 rfl ?_
  refine V_getR 8 flX8_7 dX8_take_8 rfl ?_
  refine V_iload_n 11 1 dX8_take_11 rfl ?_
  refine V_aload_n 12 0 dX8_take_12 rfl ?_
  refine V_getR 13 flX8_7 dX8_take_13 rfl ?_
  refine V_cst 16 3 dX8_take_16 rfl ?_
  refine V_iload_n 17 1 dX8_take_17 rfl ?_
  refine V_add 18 dX8_take_18 ?_
  refine V_iald 19 dX8_take_19 rfl (by omega) (by omega) ?_
  rw [w_put_other _ (Or.inr (by decide)), w_put_other _ (Or.inr (by decide)), x2]
  refine V_iast 20 dX8_take_20 rfl (by omega) (by omega) ?_
  refine V_inc 21 1 _ [(0, _), (1, _)] dX8_take_21 rfl rfl rfl (by decide) rfl ?_
  refine V_goto 24 2 dX8_take_24 (by decide) ?_
  refine V_iload_n 2 1 dX8_take_2 rfl ?_
  refine V_cst 3 3 dX8_take_3 rfl ?_
  refine V_cN_ge 4 27 dX8_take_4 (by decide) (by omega) (by omega) (fun c => ?_) (fun c => ?_)
  rotate_left
  · omega
  have e0 : w_put (w_put (w_put I 64 0 (P 0 0)) 64 (0 + 1) (P 2 0)) 64 (0 + 1 + 1) (P 6 0) 64 0 = P 0 0 := by simp [w_put_eq]
  have e1 : w_put (w_put (w_put I 64 0 (P 0 0)) 64 (0 + 1) (P 2 0)) 64 (0 + 1 + 1) (P 6 0) 64 1 = P 2 0 := by simp [w_put_eq]
  have e2 : w_put (w_put (w_put I 64 0 (P 0 0)) 64 (0 + 1) (P 2 0)) 64 (0 + 1 + 1) (P 6 0) 64 2 = P 6 0 := by simp [w_put_eq]
  have eo : ∀ i, i ≠ 64 → w_put (w_put (w_put I 64 0 (P 0 0)) 64 (0 + 1) (P 2 0)) 64 (0 + 1 + 1) (P 6 0) i = I i := fun i hi => by rw [w_put_ne _ _ hi, w_put_ne _ _ hi, w_put_ne _ _ hi]
  generalize w_put (w_put (w_put I 64 0 (P 0 0)) 64 (0 + 1) (P 2 0)) 64 (0 + 1 + 1) (P 6 0) = J at e0 e1 e2 eo ⊢
  refine V_cst 27 0 dX8_take_27 rfl ?_
  refine V_istore_n 28 [(0, _), (1, _)] dX8_take_28 (by decide) rfl ?_
  refine tk2_l 6 0 J (by omega) (fun J2 a1 a2 => ?_)
  refine V_cst 56 0 dX8_take_56 rfl ?_
  refine V_istore_n 57 [(0, _), (1, _)] dX8_take_57 (by decide) rfl ?_
  refine tk3_l 12 0 J2 (by omega) (fun J3 b1 b2 => ?_)
  refine V_cst 115 0 dX8_take_115 rfl ?_
  refine V_istore_n 116 [(0, _), (1, _)] dX8_take_116 (by decide) rfl ?_
  refine tk4_l 12 0 J3 (by omega) (fun J4 c1 c2 => ?_)
  have f66 : J4 63 = I 63 := by rw [c2 63 (by decide), b2 63 (by decide), a2 63 (by decide), eo 63 (by decide)]
  refine V_aload_n 204 0 dX8_take_204 rfl ?_
  refine V_cst 205 0 dX8_take_205 rfl ?_
  refine V_putI 206 flX8_242 ft_8_11 dX8_take_206 rfl ?_
  refine V_aload_n 209 0 dX8_take_209 rfl ?_
  refine V_cst 210 0 dX8_take_210 rfl ?_
  refine V_putZ 211 flX8_245 ft_8_41 dX8_take_211 rfl (by first | exact Or.inl rfl | exact Or.inr rfl | assumption) ?_
  refine V_aload_n 214 0 dX8_take_214 rfl ?_
  refine V_cst 215 0 dX8_take_215 rfl ?_
  refine V_putZ 216 flX8_249 ft_8_53 dX8_take_216 rfl (by first | exact Or.inl rfl | exact Or.inr rfl | assumption) ?_
  refine V_aload_n 219 0 dX8_take_219 rfl ?_
  refine V_cst 220 0 dX8_take_220 rfl ?_
  refine V_vv 221 mvX8_124 dX8_take_221 ⟨_, _, _, rfl, rfl, rfl⟩ (w_fit.mono (by omega) hE) (m_begin (d := d) (t := 0) (by decide)) rfl (Nat.le_of_ble_eq_true rfl) ?_
  rintro _ J5 _ ⟨rfl, rfl, k1, k2, k3, k4⟩
  have f5 : ∀ i, i < 80 ∨ 86 < i → i ≠ 63 → J5 i = J4 i := fun i hi hn => by rw [k4.1 i hi, w_put_ne _ _ hn, w_put_ne _ _ hn, w_put_ne _ _ hn]
  have g66 : J5 63 = w_put (w_put (w_put J4 63 11 0) 63 41 0) 63 53 0 63 := k4.1 63 (by decide)
  refine V_ret 224 dX8_take_224 rfl ⟨rfl, rfl, ⟨?_, ?_, ?_, fun j hj => ?_, fun j hj => ?_, fun j hj => ?_⟩, s_new_MC hp12 k1 k2 k3, fun j h1 h2 h3 => ?_, ?_, ?_, ?_, fun i hi => ?_⟩
  · rw [f5 64 (by decide) (by decide), c2 64 (by decide), b2 64 (by decide), a2 64 (by decide)]; exact e0
  · rw [f5 64 (by decide) (by decide), c2 64 (by decide), b2 64 (by decide), a2 64 (by decide)]; exact e1
  · rw [f5 64 (by decide) (by decide), c2 64 (by decide), b2 64 (by decide), a2 64 (by decide)]; exact e2
  · rw [f5 65 (by decide) (by decide), c2 65 (by decide), b2 65 (by decide), a1 j hj, if_pos (Nat.zero_le _), eo 65 (by decide)]; exact x3 j hj
  · rw [f5 66 (by decide) (by decide), f5 67 (by decide) (by decide), f5 68 (by decide) (by decide), c2 66 (by decide), c2 67 (by decide), c2 68 (by decide), b1 66 (by decide) (by decide) j (by omega), b1 67 (by decide) (by decide) j (by omega), b1 68 (by decide) (by decide) j (by omega), if_pos (Nat.zero_le _), if_pos (Nat.zero_le _), if_pos (Nat.zero_le _), a2 66 (by decide), a2 67 (by decide), a2 68 (by decide), eo 66 (by decide), eo 67 (by decide), eo 68 (by decide)]
    exact x4 j hj
  · rw [f5 69 (by decide) (by decide), f5 70 (by decide) (by decide), f5 71 (by decide) (by decide), f5 72 (by decide) (by decide), f5 73 (by decide) (by decide)]
    rw [c1 69 (by decide) (by decide) j (by omega), c1 70 (by decide) (by decide) j (by omega), c1 71 (by decide) (by decide) j (by omega), c1 72 (by decide) (by decide) j (by omega), c1 73 (by decide) (by decide) j (by omega), if_pos (Nat.zero_le _), if_pos (Nat.zero_le _), if_pos (Nat.zero_le _), if_pos (Nat.zero_le _), if_pos (Nat.zero_le _)]
    rw [b2 69 (by decide), b2 70 (by decide), b2 71 (by decide), b2 72 (by decide), b2 73 (by decide), a2 69 (by decide), a2 70 (by decide), a2 71 (by decide), a2 72 (by decide), a2 73 (by decide), eo 69 (by decide), eo 70 (by decide), eo 71 (by decide), eo 72 (by decide), eo 73 (by decide)]
    exact x5 j hj
  · rw [g66, w_put_other _ (Or.inr h3), w_put_other _ (Or.inr h2), w_put_other _ (Or.inr h1), f66]
  · rw [g66, w_put_other _ (Or.inr (by decide)), w_put_other _ (Or.inr (by decide)), w_put_same]
  · rw [g66, w_put_other _ (Or.inr (by decide)), w_put_same]
  · rw [g66, w_put_same]
  · rw [f5 i (by omega) (by omega), c2 i (by omega), b2 i (by omega), a2 i (by omega), eo i (by omega)]
/-! the lines of a text -/
theorem kd_end : x_kd T n n = 0 := by
  have h1 : x_st T n n = n := by unfold x_st; rw [Nat.sub_self]; rfl
  have h2 : x_le T n n = n := by unfold x_le; rw [h1, Nat.sub_self]; rfl
  have h3 : x_de T n n = n := by unfold x_de; rw [h1, Nat.sub_self]; rfl
  unfold x_kd
  rw [h1, h2, h3, if_neg (Nat.lt_irrefl _), if_neg (Nat.lt_irrefl _), if_neg (Nat.lt_irrefl _)]
theorem tw_l {a : Nat} (hE : w_fit (d + 8) E) (h256 : ∀ j, T j < 256) : ∀ (m k e f : Nat) (P : w_R) (J : w_I), k + m = n → k ≤ e → f = (if k = 0 then 1 else 0) → s_POK P → (k = 0 → P 2 0 = 0 ∧ P 6 0 = 0) → MPX P J → GD T n e J → MTX T n J →
    (∀ J' x, FrU J J' → ((∃ q, x_lines T n m P k e = .error q ∧ BD q J') ∨ ∃ q, x_lines T n m P k e = .ok q ∧ J' 63 25 = 0 ∧ MPX q.1 J' ∧ s_POK q.1) → V mX8_town E Ω 0 0 (SH u v) J' L 123 [(0, .ref (Ω.1 + 63)), (1, .int (nI a)), (2, .int (nI x))] []) →
    V mX8_town E Ω 0 0 (SH u v) J L 99 [(0, .ref (Ω.1 + 63)), (1, .int (nI a)), (2, .int (nI f))] [] := by
  intro m
  induction m with
  | zero =>
    intro k e f P J hk hke hf hP h0 hM hG hT hc
    have he : e = n := by have := hG.2.2; omega
    subst he
    refine V_aload_n 99 0 dX8_town_99 rfl ?_
    refine V_getI 100 flX8_173 dX8_town_100 rfl ?_
    rw [hG.1]
    refine V_zN_ne 103 123 dX8_town_103 (by decide) (by omega) (fun c => ?_) (fun c => ?_)
    · exact absurd rfl c
    refine V_aload_n 106 0 dX8_town_106 rfl ?_
    refine V_getI 107 flX8_151 dX8_town_107 rfl ?_
    rw [hG.2.1.1, kd_end]
    refine V_zN_eq 110 123 dX8_town_110 (by decide) (by omega) (fun c1 => ?_) (fun c1 => ?_)
    rotate_left
    · exact absurd rfl c1
    exact hc J f FrU.rf (Or.inr ⟨(P, _), rfl, hG.1, hM, hP⟩)
  | succ m ih =>
    intro k e f P J hk hke hf hP h0 hM hG hT hc
    have hkd := x_kd_lt (T := T) (n := n) e
    refine V_aload_n 99 0 dX8_town_99 rfl ?_
    refine V_getI 100 flX8_173 dX8_town_100 rfl ?_
    rw [hG.1]
    refine V_zN_ne 103 123 dX8_town_103 (by decide) (by omega) (fun c => ?_) (fun c => ?_)
    · exact absurd rfl c
    refine V_aload_n 106 0 dX8_town_106 rfl ?_
    refine V_getI 107 flX8_151 dX8_town_107 rfl ?_
    rw [hG.2.1.1]
    refine V_zN_eq 110 123 dX8_town_110 (by decide) (by omega) (fun c1 => ?_) (fun c1 => ?_)
    · refine hc J f FrU.rf (Or.inr ⟨(P, e), ?_, hG.1, hM, hP⟩)
      unfold x_lines
      rw [if_pos c1]
    have el : x_lines T n (m + 1) P k e = (x_line T n P k e >>= fun q => x_lines T n m q.1 (k + 1) q.2) := by
      show (if x_kd T n e = 0 then _ else _) = _
      rw [if_neg c1]
    rw [el] at hc
    refine V_aload_n 113 0 dX8_town_113 rfl ?_
    refine V_iload_n 114 2 dX8_town_114 rfl ?_
    refine V_vv 115 mvX8_235 dX8_town_115 ⟨_, _, _, rfl, rfl, rfl⟩ (w_fit.mono (by omega) hE) (m_readLine (d := d) (k := k) hf h256 hP hM hG hT) rfl (Nat.le_of_ble_eq_true rfl) ?_
    rintro _ J1 _ ⟨rfl, rfl, g1, g2⟩
    rcases g2 with ⟨q, y1, hB⟩ | ⟨q, y1, hG1, hM1⟩
    · refine V_cst 118 0 dX8_town_118 rfl ?_
      refine V_istore_n 119 [(0, _), (1, _), (2, _)] dX8_town_119 (by decide) rfl ?_
      refine V_goto 120 99 dX8_town_120 (by decide) ?_
      refine V_aload_n 99 0 dX8_town_99 rfl ?_
      refine V_getI 100 flX8_173 dX8_town_100 rfl ?_
      rw [hB.1]
      have hq5 := hB.2.2.2.1
      refine V_zN_ne 103 123 dX8_town_103 (by decide) (by omega) (fun c2 => ?_) (fun c2 => ?_)
      rotate_left
      · exact absurd c2 (by have := hB.2.2.1; omega)
      exact hc J1 0 g1 (Or.inl ⟨q, xb_err y1, hB⟩)
    · obtain ⟨p1, p2, p3⟩ := x_line_ok hP h0 hG.2.2 y1
      rw [xb_ok y1] at hc
      refine V_cst 118 0 dX8_town_118 rfl ?_
      refine V_istore_n 119 [(0, _), (1, _), (2, _)] dX8_town_119 (by decide) rfl ?_
      refine V_goto 120 99 dX8_town_120 (by decide) ?_
      exact ih (k + 1) q.2 0 q.1 J1 (by omega) (by omega) (by rw [if_neg (by omega)]) p1 (fun w => absurd w (by omega)) hM1 hG1 (hT.fru g1) (fun J' x h1 h2 => hc J' x (g1.trans h1) h2)
end
