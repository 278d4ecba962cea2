section
variable {Ω : w_O} {d u v : Nat} {L : w_L} {E : w_E} {T : Nat → Nat} {n : Nat} {P : w_R} {σ : w_Z}
theorem tp_l {a : Nat} : ∀ (n j : Nat) (J : w_I), j + n = 6 →
    (∀ J', (∀ q, q < 6 → J' 65 (6 + q) = if j ≤ q then 1 else J 65 (6 + q)) → (∀ q, q < 6 → J' 65 q = J 65 q) → (∀ i, i ≠ 65 → J' i = J i) → V mX8_town E Ω 0 0 (SH u v) J' L 93 [(0, .ref (Ω.1 + 63)), (1, .int (nI a))] []) →
    V mX8_town E Ω 0 0 (SH u v) J L 71 [(0, .ref (Ω.1 + 63)), (1, .int (nI a)), (2, .int (nI j))] [] := by
  intro n
  induction n with
  | zero =>
    intro j J hj hk
    have e : j = 6 := by omega
    subst e
    refine V_iload_n 71 2 dX8_town_71 rfl ?_
    refine V_bip 72 6 dX8_town_72 rfl ?_
    refine V_cN_ge 74 93 dX8_town_74 (by decide) (by omega) (by omega) (fun c => ?_) (fun c => ?_)
    · refine V_sub [(0, _), (1, _)] [0, 1] rfl ?_
      exact hk J (fun q hq => by rw [if_neg (by omega)]) (fun _ _ => rfl) (fun _ _ => rfl)
    · omega
  | succ n ih =>
    intro j J hj hk
    refine V_iload_n 71 2 dX8_town_71 rfl ?_
    refine V_bip 72 6 dX8_town_72 rfl ?_
    refine V_cN_ge 74 93 dX8_town_74 (by decide) (by omega) (by omega) (fun c => ?_) (fun c => ?_)
    · omega
    refine V_aload_n 77 0 dX8_town_77 rfl ?_
    refine V_getR 78 flX8_13 dX8_town_78 rfl ?_
    refine V_bip 81 6 dX8_town_81 rfl ?_
    refine V_iload_n 83 2 dX8_town_83 rfl ?_
    refine V_add 84 dX8_town_84 ?_
    refine V_cst 85 1 dX8_town_85 rfl ?_
    refine V_iast 86 dX8_town_86 rfl (by omega) (by omega) ?_
    refine V_inc 87 2 _ [(0, _), (1, _), (2, _)] dX8_town_87 rfl rfl rfl (by decide) rfl ?_
    refine V_goto 90 71 dX8_town_90 (by decide) ?_
    refine ih (j + 1) _ (by omega) (fun J' h1 h3 h2 => hk J' (fun q hq => ?_) (fun q hq => ?_) (fun i hi => ?_))
    · refine lp_if (fun e => ?_) (fun e => ?_) (h1 q hq) rfl
      · rw [w_put_other _ (Or.inr (by omega))]
      · rw [e, w_put_same]
    · rw [h3 q hq, w_put_other _ (Or.inr (by omega))]
    · rw [h2 i hi, w_put_ne _ _ hi]
theorem m_town0 {I : w_I} {a : Nat} (h32 : a < 4294967296) (hO : SOK σ) (hM : MInv σ I) (ha : ¬ a ≤ σ 3 0 0) : FnI Ω (d + 1) mX8_town [.ref (Ω.1 + 63), .int (nI a)] (SH u v) I L (MO u v L I σ 1 0) := by
  have hM1 : MInv σ (w_put I 63 0 0) := hM.code
  have h7 := hO.2.2.2.1.1
  refine FnR_of1 okX8_town (Nat.le_of_ble_eq_true rfl) fun l z hE => ?_
  show V _ _ _ _ _ _ _ _ 0 [(0, _), (1, _)] []
  have t17 : V mX8_town (w_Er l (d + 1) 0 0 Ω (w_pi (MO u v L I σ 1 0)) z) Ω 0 0 (SH u v) (w_put I 63 0 0) L 17 [(0, .ref (Ω.1 + 63)), (1, .int (nI a))] [] := by
    refine V_aload_n 17 0 dX8_town_17 rfl ?_
    refine V_cst 18 1 dX8_town_18 rfl ?_
    refine V_vi 19 mvX8_232 dX8_town_19 ⟨_, _, _, rfl, rfl, rfl⟩ (w_fit.mono (by omega) hE) (m_fail (d := d) (x := 1)) rfl (Nat.le_of_ble_eq_true rfl) ?_
    rintro _ _ _ _ ⟨rfl, rfl, rfl, rfl⟩
    exact V_iret 22 dX8_town_22 rfl ⟨rfl, rfl, w_put_same _ _ _ _, fun e => absurd e (by decide), hM1.code, (FrM.rf.put (by decide) (by decide)).put (by decide) (by decide)⟩
  refine V_aload_n 0 0 dX8_town_0 rfl ?_
  refine V_cst 1 0 dX8_town_1 rfl ?_
  refine V_putI 2 flX8_128 ft_8_0 dX8_town_2 rfl ?_
  refine V_iload_n 5 1 dX8_town_5 rfl ?_
  refine V_zN_lt 6 17 dX8_town_6 (by decide) (by omega) (fun c => ?_) (fun c => ?_)
  · exact t17
  refine V_iload_n 9 1 dX8_town_9 rfl ?_
  refine V_aload_n 10 0 dX8_town_10 rfl ?_
  refine V_getI 11 flX8_135 dX8_town_11 rfl ?_
  rw [hM1.2.2.2.1.1]
  refine V_cN_le 14 23 dX8_town_14 (by decide) (by omega) (by omega) (fun c1 => ?_) (fun c1 => ?_)
  · omega
  · exact t17
/-- the model reads a text as the town does -/
abbrev MW (u v : Nat) (L : w_L) (I : w_I) (σ : w_Z) (x : x_E (w_R × Nat)) : Int32 → List w_SC → w_I → w_L → Prop := fun r S' I' L' => S' = SH u v ∧ L = L' ∧ I' 63 0 = 0 ∧ FrM I I' ∧ ((∃ f p, x = .error (f, p) ∧ r = nI f ∧ MInv (z_bad σ p) I') ∨ ∃ P' e', x = .ok (P', e') ∧ r = nI 0 ∧ MInv (z_town σ P') I')
theorem m_town1 {I : w_I} {a : Nat} (hO : SOK σ) (hM : MInv σ I) (ha : a ≤ σ 3 0 0) : FnI Ω (d + 9) mX8_town [.ref (Ω.1 + 63), .int (nI a)] (SH u v) I L (MW u v L I σ (x_text (σ 3 1) a)) := by
  obtain ⟨h1, h2, h3, h4, h5, h6, h7, h8⟩ := hM
  have h700 := hO.2.2.2.1.1
  have hm12 := hO.1.2.2.1
  have hp12 := hO.1.2.2.2.2.1
  refine FnR_of1 okX8_town (Nat.le_of_ble_eq_true rfl) fun l z hE => ?_
  show V _ _ _ _ _ _ _ _ 0 [(0, _), (1, _)] []
  refine V_aload_n 0 0 dX8_town_0 rfl ?_
  refine V_cst 1 0 dX8_town_1 rfl ?_
  refine V_putI 2 flX8_128 ft_8_0 dX8_town_2 rfl ?_
  refine V_iload_n 5 1 dX8_town_5 rfl ?_
  refine V_zN_lt 6 17 dX8_town_6 (by decide) (by omega) (fun c => ?_) (fun c => ?_)
  · omega
  refine V_iload_n 9 1 dX8_town_9 rfl ?_
  refine V_aload_n 10 0 dX8_town_10 rfl ?_
  refine V_getI 11 flX8_135 dX8_town_11 rfl ?_
  rw [w_put_other _ (Or.inr (by decide)), h4.1]
  refine V_cN_le 14 23 dX8_town_14 (by decide) (by omega) (by omega) (fun c1 => ?_) (fun c1 => ?_)
  rotate_left
  · omega
  refine V_aload_n 23 0 dX8_town_23 rfl ?_
  refine V_cst 24 0 dX8_town_24 rfl ?_
  refine V_putI 25 flX8_135 ft_8_18 dX8_town_25 rfl ?_
  refine V_aload_n 28 0 dX8_town_28 rfl ?_
  refine V_iload_n 29 1 dX8_town_29 rfl ?_
  refine V_putI 30 flX8_138 ft_8_20 dX8_town_30 rfl ?_
  refine V_aload_n 33 0 dX8_town_33 rfl ?_
  refine V_cst 34 0 dX8_town_34 rfl ?_
  refine V_putI 35 flX8_141 ft_8_19 dX8_town_35 rfl ?_
  refine V_aload_n 38 0 dX8_town_38 rfl ?_
  refine V_cst 39 0 dX8_town_39 rfl ?_
  refine V_putI 40 flX8_173 ft_8_25 dX8_town_40 rfl ?_
  refine V_aload_n 43 0 dX8_town_43 rfl ?_
  refine V_cst 44 4294967295 dX8_town_44 rfl ?_
  refine V_putI 45 flX8_58 ft_8_27 dX8_town_45 rfl ?_
  refine V_aload_n 48 0 dX8_town_48 rfl ?_
  refine V_getR 49 flX8_7 dX8_town_49 rfl ?_
  refine V_cst 52 3 dX8_town_52 rfl ?_
  refine V_cst 53 2 dX8_town_53 rfl ?_
  refine V_iast 54 dX8_town_54 rfl (by omega) (by omega) ?_
  refine V_aload_n 55 0 dX8_town_55 rfl ?_
  refine V_getR 56 flX8_7 dX8_town_56 rfl ?_
  refine V_cst 59 4 dX8_town_59 rfl ?_
  refine V_cst 60 0 dX8_town_60 rfl ?_
  refine V_iast 61 dX8_town_61 rfl (by omega) (by omega) ?_
  refine V_aload_n 62 0 dX8_town_62 rfl ?_
  refine V_getR 63 flX8_7 dX8_town_63 rfl ?_
  refine V_cst 66 5 dX8_town_66 rfl ?_
  refine V_cst 67 0 dX8_town_67 rfl ?_
  refine V_iast 68 dX8_town_68 rfl (by omega) (by omega) ?_
  refine V_cst 69 0 dX8_town_69 rfl ?_
  refine V_istore_n 70 [(0, _), (1, _), (2, _)] dX8_town_70 (by decide) rfl ?_
  refine tp_l 6 0 _ (by omega) (fun J b1 b2 b3 => ?_)
  have j66 : ∀ j, J 63 j = w_put (w_put (w_put (w_put (w_put (w_put I 63 0 0) 63 18 0) 63 20 a) 63 19 0) 63 25 0) 63 27 mI 63 j := fun j => by rw [b3 63 (by decide), w_put_ne _ 63 (by decide), w_put_ne _ 63 (by decide), w_put_ne _ 63 (by decide)]
  have q0 : J 63 0 = 0 := by rw [j66]; simp [w_put_eq]
  have q18 : J 63 18 = 0 := by rw [j66]; simp [w_put_eq]
  have q19 : J 63 19 = 0 := by rw [j66]; simp [w_put_eq]
  have q20 : J 63 20 = a := by rw [j66]; simp [w_put_eq]
  have q25 : J 63 25 = 0 := by rw [j66]; simp [w_put_eq]
  have q27 : J 63 27 = mI := by rw [j66]; simp [w_put_eq]
  have qo : ∀ j, j ≠ 0 → j ≠ 18 → j ≠ 19 → j ≠ 20 → j ≠ 25 → j ≠ 27 → J 63 j = I 63 j := fun j w0 w1 w2 w3 w4 w5 => by rw [j66]; simp [w_put_eq, w0, w1, w2, w3, w4, w5]
  have qi : ∀ i, i < 63 ∨ 65 < i → J i = I i := fun i hi => by
    rw [b3 i (by omega), w_put_ne _ _ (by omega), w_put_ne _ _ (by omega), w_put_ne _ _ (by omega), w_put_ne _ _ (by omega), w_put_ne _ _ (by omega), w_put_ne _ _ (by omega), w_put_ne _ _ (by omega), w_put_ne _ _ (by omega), w_put_ne _ _ (by omega)]
  have j67 : ∀ j, J 64 j = w_put (w_put (w_put I 64 3 2) 64 4 0) 64 5 0 64 j := fun j => by
    rw [b3 64 (by decide)]
    simp [w_put_eq]
  have q67 : ∀ j, j < 3 → J 64 j = I 64 j := fun j hj => by
    rw [j67, w_put_other _ (Or.inr (by omega)), w_put_other _ (Or.inr (by omega)), w_put_other _ (Or.inr (by omega))]
  have q68 : ∀ j, j < 6 → J 65 j = I 65 j := fun j hj => by
    rw [b2 j hj, w_put_ne _ 65 (by decide), w_put_ne _ 65 (by decide), w_put_ne _ 65 (by decide), w_put_ne _ 65 (by decide), w_put_ne _ 65 (by decide), w_put_ne _ 65 (by decide), w_put_ne _ 65 (by decide), w_put_ne _ 65 (by decide), w_put_ne _ 65 (by decide)]
  have hX : MPX s_P0 J := by
    refine ⟨?_, ?_, ?_, fun j hj => ?_, fun j hj => absurd hj (Nat.not_lt_zero _), fun j hj => absurd hj (Nat.not_lt_zero _)⟩
    · rw [j67]; simp [w_put_eq, s_P0]
    · rw [j67]; simp [w_put_eq, s_P0]
    · rw [j67]; simp [w_put_eq, s_P0]
    · rw [b1 j hj, if_pos (Nat.zero_le _)]; rfl
  have hT : MTX (σ 3 1) a J := ⟨by omega, q20, fun j hj => ⟨hO.2.2.2.1.2 j, by rw [qi 79 (by decide)]; exact h4.2 j (by omega)⟩⟩
  clear b1 b2 b3 j66 j67
  refine V_aload_n 93 0 dX8_town_93 rfl ?_
  refine V_vv 94 mvX8_193 dX8_town_94 ⟨_, _, _, rfl, rfl, rfl⟩ (w_fit.mono (by omega) hE) (m_stepOn (d := d) (T := σ 3 1) (n := a) q19 (Nat.zero_le _) hT) rfl (Nat.le_of_ble_eq_true rfl) ?_
  rintro _ J1 _ ⟨rfl, rfl, k1, k2⟩
  have hG : GD (σ 3 1) a 0 J1 := ⟨by rw [k2.2 25 (by decide) (by decide)]; exact q25, k1, Nat.zero_le _⟩
  refine V_cst 97 1 dX8_town_97 rfl ?_
  refine V_istore_n 98 [(0, _), (1, _), (2, _)] dX8_town_98 (by decide) rfl ?_
  refine tw_l (a := a) hE hO.2.2.2.1.2 a 0 0 1 s_P0 J1 (by omega) (Nat.le_refl _) rfl s_P0_ok (fun _ => ⟨rfl, rfl⟩) (hX.x k2.x) hG (hT.frx k2.x) (fun J2 x g1 g2 => ?_)
  have hF : FrU J J2 := k2.x.u.trans g1
  have r0 : J2 63 0 = 0 := by rw [hF.2.1 0 (by decide)]; exact q0
  have r18 : J2 63 18 = 0 := by rw [hF.2.1 18 (by decide)]; exact q18
  have r27 : J2 63 27 = mI := by rw [hF.2.1 27 (by decide)]; exact q27
  have ro : ∀ j, j < 18 ∨ 27 < j → j ≠ 0 → J2 63 j = I 63 j := fun j hj h0 => by rw [hF.2.1 j (by omega)]; exact qo j h0 (by omega) (by omega) (by omega) (by omega) (by omega)
  have ri : ∀ i, i < 63 ∨ 73 < i → J2 i = I i := fun i hi => by rw [hF.1 i hi]; exact qi i (by omega)
  have hMP : MP (σ 0) J2 := by
    obtain ⟨p0, p1, p2, p3, p4, p5⟩ := h1
    refine ⟨?_, ?_, ?_, fun j hj => ?_, fun j hj => ?_, fun j hj => ?_⟩
    · rw [hF.2.2.1 0 (by decide), q67 0 (by decide)]; exact p0
    · rw [hF.2.2.1 1 (by decide), q67 1 (by decide)]; exact p1
    · rw [hF.2.2.1 2 (by decide), q67 2 (by decide)]; exact p2
    · rw [hF.2.2.2.1 j hj, q68 j hj]; exact p3 j hj
    · rw [hF.2.2.2.2 66 (by decide) (by decide) j (by omega), hF.2.2.2.2 67 (by decide) (by decide) j (by omega), hF.2.2.2.2 68 (by decide) (by decide) j (by omega), qi 66 (by decide), qi 67 (by decide), qi 68 (by decide)]; exact p4 j hj
    · rw [hF.2.2.2.2 69 (by decide) (by decide) j (by omega), hF.2.2.2.2 70 (by decide) (by decide) j (by omega), hF.2.2.2.2 71 (by decide) (by decide) j (by omega), hF.2.2.2.2 72 (by decide) (by decide) j (by omega), hF.2.2.2.2 73 (by decide) (by decide) j (by omega), qi 69 (by decide), qi 70 (by decide), qi 71 (by decide), qi 72 (by decide), qi 73 (by decide)]; exact p5 j hj
  rcases g2 with ⟨⟨f, p⟩, y, hB⟩ | ⟨⟨P', e'⟩, y, hb, hX2, hP'⟩
  · obtain ⟨d1, d2, d3, d4, d5⟩ := hB
    have d1 : J2 63 25 = f := d1
    have d2 : J2 63 26 = p := d2
    have d3 : 1 ≤ f := d3
    have d4 : f ≤ 5 := d4
    refine V_aload_n 123 0 dX8_town_123 rfl ?_
    refine V_getI 124 flX8_173 dX8_town_124 rfl ?_
    rw [d1]
    refine V_zN_eq 127 153 dX8_town_127 (by decide) (by omega) (fun c2 => ?_) (fun c2 => ?_)
    · omega
    refine V_aload_n 130 0 dX8_town_130 rfl ?_
    refine V_aload_n 131 0 dX8_town_131 rfl ?_
    refine V_getI 132 flX8_176 dX8_town_132 rfl ?_
    rw [d2]
    refine V_putI 135 flX8_58 ft_8_27 dX8_town_135 rfl ?_
    refine V_aload_n 138 0 dX8_town_138 rfl ?_
    refine V_getR 139 flX8_52 dX8_town_139 rfl ?_
    refine V_cst 142 0 dX8_town_142 rfl ?_
    refine V_dup2 143 dX8_town_143 rfl rfl ?_
    refine V_iald 144 dX8_town_144 rfl (by omega) (by omega) ?_
    rw [w_put_ne _ 78 (by decide), ri 78 (by decide), h5.2.1]
    refine V_cst 145 1 dX8_town_145 rfl ?_
    refine V_add 146 dX8_town_146 ?_
    refine V_iast 147 dX8_town_147 rfl (by omega) (by omega) ?_
    refine V_aload_n 148 0 dX8_town_148 rfl ?_
    refine V_getI 149 flX8_173 dX8_town_149 rfl ?_
    rw [w_put_ne _ 63 (by decide), w_put_other _ (Or.inr (by decide)), d1]
    have t66 : ∀ j, j ≠ 27 → w_put (w_put J2 63 27 p) 78 0 (σ 3 3 0 + 1) 63 j = J2 63 j := fun j hj => by rw [w_put_ne _ 63 (by decide), w_put_other _ (Or.inr hj)]
    have tn : ∀ i, i ≠ 63 → i ≠ 78 → w_put (w_put J2 63 27 p) 78 0 (σ 3 3 0 + 1) i = J2 i := fun i w1 w2 => by rw [w_put_ne _ i w2, w_put_ne _ i w1]
    refine V_iret 152 dX8_town_152 rfl ⟨rfl, rfl, ?_, ⟨fun i hi => ?_, ?_⟩, Or.inl ⟨f, p, y, rfl, hMP.of (fun i w1 w2 => tn i (by omega) (by omega)), h2.of ?_ (fun i w1 w2 => ?_), h3.of (fun i w1 w2 => ?_), ?_, ?_, ?_, ?_, ?_⟩⟩
    · rw [t66 0 (by decide)]; exact r0
    · rw [tn i (by omega) (by omega), ri i (by omega)]
    · rw [t66 52 (by decide), ro 52 (by decide) (by decide)]; omega
    · rw [t66 11 (by decide), ro 11 (by decide) (by decide)]
    · rw [tn i (by omega) (by omega), ri i (by omega)]
    · rw [tn i (by omega) (by omega), ri i (by omega)]
    · exact ⟨by rw [t66 18 (by decide)]; exact r18, fun j hj => absurd hj (Nat.not_lt_zero _)⟩
    · refine ⟨?_, ?_, ?_⟩
      · rw [w_put_ne _ 63 (by decide), w_put_same]; rfl
      · rw [w_put_same]; rfl
      · rw [w_put_other _ (Or.inr (by decide)), w_put_ne _ 78 (by decide), ri 78 (by decide)]; exact h5.2.2
    · unfold MR
      rw [t66 41 (by decide), tn 91 (by decide) (by decide), ro 41 (by decide) (by decide), ri 91 (by decide)]
      exact h6
    · exact h7.of (by rw [t66 53 (by decide), ro 53 (by decide) (by decide)]) (by rw [t66 54 (by decide), ro 54 (by decide) (by decide)]) (fun i hi => by rw [tn i (by omega) (by omega), ri i (by omega)])
    · exact h8.of (by rw [t66 52 (by decide), ro 52 (by decide) (by decide)]) (by rw [tn 97 (by decide) (by decide), ri 97 (by decide)])
  · have hX2 : MPX P' J2 := hX2
    have hP' : s_POK P' := hP'
    refine V_aload_n 123 0 dX8_town_123 rfl ?_
    refine V_getI 124 flX8_173 dX8_town_124 rfl ?_
    rw [hb]
    refine V_zN_eq 127 153 dX8_town_127 (by decide) (by omega) (fun c2 => ?_) (fun c2 => ?_)
    rotate_left
    · exact absurd rfl c2
    refine V_aload_n 153 0 dX8_town_153 rfl ?_
    refine V_vv 154 mvX8_239 dX8_town_154 ⟨_, _, _, rfl, rfl, rfl⟩ (w_fit.mono (by omega) hE) (m_take (d := d) hP' hX2) rfl (Nat.le_of_ble_eq_true rfl) ?_
    rintro _ J3 _ ⟨rfl, rfl, k3, k4, k5, k6, k7, k8, k9⟩
    refine V_cst 157 0 dX8_town_157 rfl ?_
    refine V_iret 158 dX8_town_158 rfl ⟨rfl, rfl, ?_, ⟨fun i hi => ?_, ?_⟩, Or.inr ⟨P', e', y, rfl, k3, ?_, k4, ?_, ?_, ?_, ?_, ?_⟩⟩
    · rw [k5 0 (by decide) (by decide) (by decide)]; exact r0
    · rw [k9 i (by omega), ri i (by omega)]
    · rw [k5 52 (by decide) (by decide) (by decide), ro 52 (by decide) (by decide)]; omega
    · exact ⟨k6, fun s hs => absurd hs (Nat.not_lt_zero _)⟩
    · exact ⟨by rw [k5 18 (by decide) (by decide) (by decide)]; exact r18, fun j hj => absurd hj (Nat.not_lt_zero _)⟩
    · refine ⟨?_, ?_, ?_⟩
      · rw [k5 27 (by decide) (by decide) (by decide)]; exact r27
      · rw [k9 78 (by decide), ri 78 (by decide)]; exact h5.2.1
      · rw [k9 78 (by decide), ri 78 (by decide)]; exact h5.2.2
    · exact ⟨k7, Or.inl rfl⟩
    · exact ⟨k8, Or.inl rfl⟩
    · exact h8.of (by rw [k5 52 (by decide) (by decide) (by decide), ro 52 (by decide) (by decide)]) (by rw [k9 97 (by decide), ri 97 (by decide)])
end
