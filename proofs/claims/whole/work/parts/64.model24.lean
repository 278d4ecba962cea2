section
variable {Ω : w_O} {d u v : Nat} {L : w_L} {E : w_E} {T : Nat → Nat} {n : Nat} {P : w_R}
theorem m_readPromise0 {I : w_I} {e : Nat} (h12 : P 6 0 = 12) (hM : MPX P I) (hG : GD T n e I) : FnV Ω (d + 1) mX8_readPromise [.ref (Ω.1 + 63)] (SH u v) I L (fun S' I' L' => S' = SH u v ∧ L = L' ∧ FrU I I' ∧ BD (2, x_st T n e) I') := by
  refine FnR_of1 okX8_readPromise (Nat.le_of_ble_eq_true rfl) fun l z hE => ?_
  show V _ _ _ _ _ _ _ _ 0 [(0, _)] []
  refine V_aload_n 0 0 dX8_readPromise_0 rfl ?_
  refine V_getR 1 flX8_7 dX8_readPromise_1 rfl ?_
  refine V_cst 4 5 dX8_readPromise_4 rfl ?_
  refine V_iald 5 dX8_readPromise_5 rfl (by omega) (by omega) ?_
  rw [hM.2.2.1, h12]
  refine V_bip 6 12 dX8_readPromise_6 rfl ?_
  refine V_cN_ne 8 16 dX8_readPromise_8 (by decide) (by omega) (by omega) (fun c => ?_) (fun c => ?_)
  · exact absurd rfl c
  refine V_aload_n 11 0 dX8_readPromise_11 rfl ?_
  refine V_cst 12 2 dX8_readPromise_12 rfl ?_
  refine V_vv 13 mvX8_196 dX8_readPromise_13 ⟨_, _, _, rfl, rfl, rfl⟩ (w_fit.mono (by omega) hE) (m_wrong (d := d) (f := 2) hG.1) rfl (Nat.le_of_ble_eq_true rfl) ?_
  rintro _ I1 _ ⟨rfl, rfl, k1⟩
  obtain ⟨b1, b2⟩ := BD.wrong hG (f := 2) (by decide) (by decide)
  rw [← k1] at b1 b2
  refine V_aload_n 16 0 dX8_readPromise_16 rfl ?_
  refine V_getI 17 flX8_173 dX8_readPromise_17 rfl ?_
  rw [b1.1]
  refine V_zN_eq 20 24 dX8_readPromise_20 (by decide) (by omega) (fun c1 => ?_) (fun c1 => ?_)
  · exact absurd c1 (by show (2 : Nat) ≠ 0; decide)
  exact V_ret 23 dX8_readPromise_23 rfl ⟨rfl, rfl, b2.u, b1⟩
/-- what was read so far lies where it must -/
def RP5 (P : w_R) (a b c h : Nat) (k : Nat) (I : w_I) : Prop := (1 ≤ k → I 69 (12 + P 6 0) = a) ∧ (2 ≤ k → I 70 (12 + P 6 0) = b) ∧ (3 ≤ k → I 71 (12 + P 6 0) = c) ∧ (4 ≤ k → I 72 (12 + P 6 0) = h)
theorem RP5.x {a b c h k : Nat} {I I' : w_I} (hR : RP5 P a b c h k I) (hf : ∀ i, i ≠ 63 → i ≠ 73 → I' i = I i) : RP5 P a b c h k I' := by
  unfold RP5
  rw [hf 69 (by decide) (by decide), hf 70 (by decide) (by decide), hf 71 (by decide) (by decide), hf 72 (by decide) (by decide)]
  exact hR
theorem m_readPromise1 {I : w_I} {e : Nat} (h256 : ∀ j, T j < 256) (hP : s_POK P) (h12 : P 6 0 < 12) (hM : MPX P I) (hG : GD T n e I) (hT : MTX T n I) : FnV Ω (d + 7) mX8_readPromise [.ref (Ω.1 + 63)] (SH u v) I L (LM u v T n L I (x_prom1 T n P e)) := by
  have h6 := hP.1.2
  refine FnR_of1 okX8_readPromise (Nat.le_of_ble_eq_true rfl) fun l z hE => ?_
  show V _ _ _ _ _ _ _ _ 0 [(0, _)] []
  have t204 : ∀ q J x, x_prom1 T n P e = .error q → BD q J → FrU I J → V mX8_readPromise (w_Er l (d + 7) 0 0 Ω (w_pv (LM u v T n L I (x_prom1 T n P e))) z) Ω 0 0 (SH u v) J L 204 [(0, .ref (Ω.1 + 63)), (1, .int (nI (12 + P 6 0))), (2, .int (nI x))] [] := by
    intro q J x hx hB hF
    refine V_aload_n 204 0 dX8_readPromise_204 rfl ?_
    refine V_getR 205 flX8_7 dX8_readPromise_205 rfl ?_
    refine V_cst 208 5 dX8_readPromise_208 rfl ?_
    refine V_dup2 209 dX8_readPromise_209 rfl rfl ?_
    refine V_iald 210 dX8_readPromise_210 rfl (by omega) (by omega) ?_
    refine V_cst 211 1 dX8_readPromise_211 rfl ?_
    refine V_add 212 dX8_readPromise_212 ?_
    refine V_iast 213 dX8_readPromise_213 rfl (by omega) (by omega) ?_
    exact V_ret 214 dX8_readPromise_214 rfl ⟨rfl, rfl, hF.put (Or.inl ⟨rfl, by decide⟩), Or.inl ⟨q, hx, hB.u (by decide)⟩⟩
  have t135 : ∀ q J, x_prom1 T n P e = .error q → BD q J → FrU I J → V mX8_readPromise (w_Er l (d + 7) 0 0 Ω (w_pv (LM u v T n L I (x_prom1 T n P e))) z) Ω 0 0 (SH u v) J L 135 [(0, .ref (Ω.1 + 63)), (1, .int (nI (12 + P 6 0)))] [] := by
    intro q J hx hB hF
    refine V_aload_n 135 0 dX8_readPromise_135 rfl ?_
    refine V_getR 136 flX8_37 dX8_readPromise_136 rfl ?_
    refine V_iload_n 139 1 dX8_readPromise_139 rfl ?_
    refine V_cst 140 0 dX8_readPromise_140 rfl ?_
    refine V_iast 141 dX8_readPromise_141 rfl (by omega) (by omega) ?_
    refine V_aload_n 142 0 dX8_readPromise_142 rfl ?_
    refine V_lit 143 (w := 6) "on" (by decide) dX8_readPromise_143 ?_
    have hB2 : BD q (w_put J 73 (12 + P 6 0) 0) := hB.u (by decide)
    refine V_vi 145 mvX8_211 dX8_readPromise_145 ⟨_, _, _, rfl, rfl, rfl⟩ (w_fit.mono (by omega) hE) (m_passes0 (d := d) (w := 6) (by decide) hB2) rfl (Nat.le_of_ble_eq_true rfl) ?_
    rintro _ _ _ _ ⟨rfl, rfl, rfl, rfl⟩
    refine V_istore_n 148 [(0, _), (1, _), (2, _)] dX8_readPromise_148 (by decide) rfl ?_
    refine V_iload_n 149 2 dX8_readPromise_149 rfl ?_
    refine V_zN_eq 150 204 dX8_readPromise_150 (by decide) (by omega) (fun c => ?_) (fun c => ?_)
    rotate_left
    · exact absurd rfl c
    exact t204 q _ 0 hx hB2 (hF.put (Or.inr (Or.inr ⟨by decide, by decide, by omega⟩)))
  have t122 : ∀ q J, x_prom1 T n P e = .error q → BD q J → FrU I J → V mX8_readPromise (w_Er l (d + 7) 0 0 Ω (w_pv (LM u v T n L I (x_prom1 T n P e))) z) Ω 0 0 (SH u v) J L 122 [(0, .ref (Ω.1 + 63)), (1, .int (nI (12 + P 6 0)))] [] := by
    intro q J hx hB hF
    refine V_aload_n 122 0 dX8_readPromise_122 rfl ?_
    refine V_getR 123 flX8_34 dX8_readPromise_123 rfl ?_
    refine V_iload_n 126 1 dX8_readPromise_126 rfl ?_
    refine V_aload_n 127 0 dX8_readPromise_127 rfl ?_
    refine V_cst 128 0 dX8_readPromise_128 rfl ?_
    refine V_bip 129 11 dX8_readPromise_129 rfl ?_
    refine V_vi 131 mvX8_207 dX8_readPromise_131 ⟨_, _, _, rfl, rfl, rfl⟩ (w_fit.mono (by omega) hE) (m_readNumber0 (d := d) hB) rfl (Nat.le_of_ble_eq_true rfl) ?_
    rintro _ _ _ _ ⟨rfl, rfl, rfl, rfl⟩
    refine V_iast 134 dX8_readPromise_134 rfl (by omega) (by omega) ?_
    exact t135 q _ hx (hB.u (by decide)) (hF.put (Or.inr (Or.inr ⟨by decide, by decide, by omega⟩)))
  have t116 : ∀ q J, x_prom1 T n P e = .error q → BD q J → FrU I J → V mX8_readPromise (w_Er l (d + 7) 0 0 Ω (w_pv (LM u v T n L I (x_prom1 T n P e))) z) Ω 0 0 (SH u v) J L 116 [(0, .ref (Ω.1 + 63)), (1, .int (nI (12 + P 6 0)))] [] := by
    intro q J hx hB hF
    refine V_aload_n 116 0 dX8_readPromise_116 rfl ?_
    refine V_lit 117 (w := 5) "at" (by decide) dX8_readPromise_117 ?_
    refine V_vv 119 mvX8_203 dX8_readPromise_119 ⟨_, _, _, rfl, rfl, rfl⟩ (w_fit.mono (by omega) hE) (m_word0 (d := d) (w := 5) hB) rfl (Nat.le_of_ble_eq_true rfl) ?_
    rintro _ _ _ ⟨rfl, rfl, rfl⟩
    exact t122 q J hx hB hF
  have t90 : ∀ q J, x_prom1 T n P e = .error q → BD q J → FrU I J → V mX8_readPromise (w_Er l (d + 7) 0 0 Ω (w_pv (LM u v T n L I (x_prom1 T n P e))) z) Ω 0 0 (SH u v) J L 90 [(0, .ref (Ω.1 + 63)), (1, .int (nI (12 + P 6 0)))] [] := by
    intro q J hx hB hF
    refine V_aload_n 90 0 dX8_readPromise_90 rfl ?_
    refine V_getR 91 flX8_31 dX8_readPromise_91 rfl ?_
    refine V_iload_n 94 1 dX8_readPromise_94 rfl ?_
    refine V_aload_n 95 0 dX8_readPromise_95 rfl ?_
    refine V_lit 96 (w := 4) "day" (by decide) dX8_readPromise_96 ?_
    refine V_vi 98 mvX8_211 dX8_readPromise_98 ⟨_, _, _, rfl, rfl, rfl⟩ (w_fit.mono (by omega) hE) (m_passes0 (d := d) (w := 4) (by decide) hB) rfl (Nat.le_of_ble_eq_true rfl) ?_
    rintro _ _ _ _ ⟨rfl, rfl, rfl, rfl⟩
    refine V_zN_eq 101 114 dX8_readPromise_101 (by decide) (by omega) (fun c => ?_) (fun c => ?_)
    rotate_left
    · exact absurd rfl c
    refine V_cst 114 0 dX8_readPromise_114 rfl ?_
    refine V_iast 115 dX8_readPromise_115 rfl (by omega) (by omega) ?_
    exact t116 q _ hx (hB.u (by decide)) (hF.put (Or.inr (Or.inr ⟨by decide, by decide, by omega⟩)))
  have t55 : ∀ q J, x_prom1 T n P e = .error q → BD q J → FrU I J → J 64 3 = P 0 0 → V mX8_readPromise (w_Er l (d + 7) 0 0 Ω (w_pv (LM u v T n L I (x_prom1 T n P e))) z) Ω 0 0 (SH u v) J L 55 [(0, .ref (Ω.1 + 63)), (1, .int (nI (12 + P 6 0)))] [] := by
    intro q J hx hB hF h3
    have hq5 := hB.2.2.2.1
    refine V_aload_n 55 0 dX8_readPromise_55 rfl ?_
    refine V_getR 56 flX8_28 dX8_readPromise_56 rfl ?_
    refine V_iload_n 59 1 dX8_readPromise_59 rfl ?_
    refine V_aload_n 60 0 dX8_readPromise_60 rfl ?_
    refine V_aload_n 61 0 dX8_readPromise_61 rfl ?_
    refine V_getR 62 flX8_7 dX8_readPromise_62 rfl ?_
    refine V_cst 65 3 dX8_readPromise_65 rfl ?_
    refine V_iald 66 dX8_readPromise_66 rfl (by omega) (by omega) ?_
    refine V_aload_n 67 0 dX8_readPromise_67 rfl ?_
    refine V_getI 68 flX8_173 dX8_readPromise_68 rfl ?_
    rw [hB.1]
    refine V_zN_ne 71 85 dX8_readPromise_71 (by decide) (by omega) (fun c => ?_) (fun c => ?_)
    rotate_left
    · exact absurd c (by have := hB.2.2.1; omega)
    refine V_cst 85 0 dX8_readPromise_85 rfl ?_
    refine V_vi 86 mvX8_199 dX8_readPromise_86 ⟨_, _, _, rfl, rfl, rfl⟩ (w_fit.mono (by omega) hE) (m_readOne0 (d := d) hB) rfl (Nat.le_of_ble_eq_true rfl) ?_
    rintro _ _ _ _ ⟨rfl, rfl, rfl, rfl⟩
    refine V_iast 89 dX8_readPromise_89 rfl (by omega) (by omega) ?_
    exact t90 q _ hx (hB.u (by decide)) (hF.put (Or.inr (Or.inr ⟨by decide, by decide, by omega⟩)))
  refine V_aload_n 0 0 dX8_readPromise_0 rfl ?_
  refine V_getR 1 flX8_7 dX8_readPromise_1 rfl ?_
  refine V_cst 4 5 dX8_readPromise_4 rfl ?_
  refine V_iald 5 dX8_readPromise_5 rfl (by omega) (by omega) ?_
  rw [hM.2.2.1]
  refine V_bip 6 12 dX8_readPromise_6 rfl ?_
  refine V_cN_ne 8 16 dX8_readPromise_8 (by decide) (by omega) (by omega) (fun c => ?_) (fun c => ?_)
  rotate_left
  · omega
  refine V_aload_n 16 0 dX8_readPromise_16 rfl ?_
  refine V_getI 17 flX8_173 dX8_readPromise_17 rfl ?_
  rw [hG.1]
  refine V_zN_eq 20 24 dX8_readPromise_20 (by decide) (by omega) (fun c1 => ?_) (fun c1 => ?_)
  rotate_left
  · exact absurd rfl c1
  refine V_aload_n 24 0 dX8_readPromise_24 rfl ?_
  refine V_vv 25 mvX8_193 dX8_readPromise_25 ⟨_, _, _, rfl, rfl, rfl⟩ (w_fit.mono (by omega) hE) (m_stepOn (d := d + 5) hG.2.1.2.2.2.1 (x_en_le hG.2.2).2.2 hT) rfl (Nat.le_of_ble_eq_true rfl) ?_
  rintro _ I1 _ ⟨rfl, rfl, k1, k2⟩
  have hG1 := hG.step k1 k2
  have hM1 := hM.x k2.x
  have hT1 := hT.frx k2.x
  have hF1 : FrU I I1 := k2.x.u
  clear k1 k2
  refine V_bip 28 12 dX8_readPromise_28 rfl ?_
  refine V_aload_n 30 0 dX8_readPromise_30 rfl ?_
  refine V_getR 31 flX8_7 dX8_readPromise_31 rfl ?_
  refine V_cst 34 5 dX8_readPromise_34 rfl ?_
  refine V_iald 35 dX8_readPromise_35 rfl (by omega) (by omega) ?_
  rw [hM1.2.2.1]
  refine V_add 36 dX8_readPromise_36 ?_
  refine V_istore_n 37 [(0, _), (1, _)] dX8_readPromise_37 (by decide) rfl ?_
  refine V_aload_n 38 0 dX8_readPromise_38 rfl ?_
  refine V_getR 39 flX8_25 dX8_readPromise_39 rfl ?_
  refine V_iload_n 42 1 dX8_readPromise_42 rfl ?_
  refine V_aload_n 43 0 dX8_readPromise_43 rfl ?_
  refine V_aload_n 44 0 dX8_readPromise_44 rfl ?_
  refine V_getR 45 flX8_7 dX8_readPromise_45 rfl ?_
  refine V_cst 48 3 dX8_readPromise_48 rfl ?_
  refine V_iald 49 dX8_readPromise_49 rfl (by omega) (by omega) ?_
  rw [hM1.1]
  refine V_cst 50 0 dX8_readPromise_50 rfl ?_
  refine V_vi 51 mvX8_199 dX8_readPromise_51 ⟨_, _, _, rfl, rfl, rfl⟩ (w_fit.mono (by omega) hE) (m_readOne1 (d := d + 4) (b := 0) h256 (by omega) (by decide) hG1 hT1) rfl (Nat.le_of_ble_eq_true rfl) ?_
  rintro _ _ I2 _ ⟨rfl, rfl, g1, g2⟩
  rw [x_l1_0] at g2
  have hM2 := hM1.x g1
  have hT2 := hT1.frx g1
  have hF2 : FrU I I2 := hF1.trans g1.u
  rcases g2 with ⟨⟨a, ea⟩, y1, rfl, hG2⟩ | ⟨q, y1, hB, y, rfl⟩
  rotate_left
  · refine V_iast 54 dX8_readPromise_54 rfl (by omega) (by omega) ?_
    exact t55 q _ (xb_err y1) (hB.u (by decide)) (hF2.put (Or.inr (Or.inr ⟨by decide, by decide, by omega⟩))) (by rw [w_put_ne _ 64 (by decide)]; exact hM2.1)
  have hG2 : GD T n ea I2 := hG2
  have ha : a < P 0 0 := (x_num_ok y1).2.1
  have em : x_prom1 T n P e = (x_oth T n ea a (P 0 0) >>= fun b => x_day T n b.2 >>= fun c => x_hr T n c.2 >>= fun h => x_on T n (P 6 0) h.2 >>= fun l => .ok (s_addP P a b.1 c.1 h.1 l.1, l.2)) := xb_ok y1
  rw [em] at t55 t90 t116 t122 t135 t204 ⊢
  refine V_iast 54 dX8_readPromise_54 rfl (by omega) (by omega) ?_
  have hM3 : MPX P (w_put I2 69 (12 + P 6 0) a) := hM2.put (Or.inr ⟨by decide, by decide, rfl⟩)
  have hG3 : GD T n ea (w_put I2 69 (12 + P 6 0) a) := hG2.u (by decide)
  have hT3 : MTX T n (w_put I2 69 (12 + P 6 0) a) := hT2.u (by decide) (by decide)
  have hF3 : FrU I (w_put I2 69 (12 + P 6 0) a) := hF2.put (Or.inr (Or.inr ⟨by decide, by decide, by omega⟩))
  have a3 : w_put I2 69 (12 + P 6 0) a 69 (12 + P 6 0) = a := w_put_same _ _ _ _
  generalize w_put I2 69 (12 + P 6 0) a = I3 at hM3 hG3 hT3 hF3 a3 ⊢
  refine V_aload_n 55 0 dX8_readPromise_55 rfl ?_
  refine V_getR 56 flX8_28 dX8_readPromise_56 rfl ?_
  refine V_iload_n 59 1 dX8_readPromise_59 rfl ?_
  refine V_aload_n 60 0 dX8_readPromise_60 rfl ?_
  refine V_aload_n 61 0 dX8_readPromise_61 rfl ?_
  refine V_getR 62 flX8_7 dX8_readPromise_62 rfl ?_
  refine V_cst 65 3 dX8_readPromise_65 rfl ?_
  refine V_iald 66 dX8_readPromise_66 rfl (by omega) (by omega) ?_
  rw [hM3.1]
  refine V_aload_n 67 0 dX8_readPromise_67 rfl ?_
  refine V_getI 68 flX8_173 dX8_readPromise_68 rfl ?_
  rw [hG3.1]
  refine V_zN_ne 71 85 dX8_readPromise_71 (by decide) (by omega) (fun c2 => ?_) (fun c2 => ?_)
  · exact absurd rfl c2
  refine V_cst 74 1 dX8_readPromise_74 rfl ?_
  refine V_aload_n 75 0 dX8_readPromise_75 rfl ?_
  refine V_getR 76 flX8_25 dX8_readPromise_76 rfl ?_
  refine V_iload_n 79 1 dX8_readPromise_79 rfl ?_
  refine V_iald 80 dX8_readPromise_80 rfl (by omega) (by omega) ?_
  rw [a3]
  refine V_shl 81 dX8_readPromise_81 (by omega) ?_
  refine V_goto 82 86 dX8_readPromise_82 (by decide) ?_
  rw [Nat.one_mul]
  refine V_vi 86 mvX8_199 dX8_readPromise_86 ⟨_, _, _, rfl, rfl, rfl⟩ (w_fit.mono (by omega) hE) (m_readOne1 (d := d + 4) (b := 2 ^ a) h256 (by omega) (p12 (by omega)) hG3 hT3) rfl (Nat.le_of_ble_eq_true rfl) ?_
  rintro _ _ I4 _ ⟨rfl, rfl, g1, g2⟩
  rw [x_l1_oth ha] at g2
  have hM4 := hM3.x g1
  have hT4 := hT3.frx g1
  have hF4 : FrU I I4 := hF3.trans g1.u
  have a4 : I4 69 (12 + P 6 0) = a := by rw [g1.1 69 (by decide)]; exact a3
  rcases g2 with ⟨⟨b, eb⟩, y2, rfl, hG4⟩ | ⟨q, y2, hB, y, rfl⟩
  rotate_left
  · refine V_iast 89 dX8_readPromise_89 rfl (by omega) (by omega) ?_
    exact t90 q _ (xb_err y2) (hB.u (by decide)) (hF4.put (Or.inr (Or.inr ⟨by decide, by decide, by omega⟩)))
  have hG4 : GD T n eb I4 := hG4
  rw [xb_ok y2] at t90 t116 t122 t135 t204 ⊢
  dsimp only at t90 t116 t122 t135 t204 ⊢
  clear t55
  refine V_iast 89 dX8_readPromise_89 rfl (by omega) (by omega) ?_
  have hM5 : MPX P (w_put I4 70 (12 + P 6 0) b) := hM4.put (Or.inr ⟨by decide, by decide, rfl⟩)
  have hG5 : GD T n eb (w_put I4 70 (12 + P 6 0) b) := hG4.u (by decide)
  have hT5 : MTX T n (w_put I4 70 (12 + P 6 0) b) := hT4.u (by decide) (by decide)
  have hF5 : FrU I (w_put I4 70 (12 + P 6 0) b) := hF4.put (Or.inr (Or.inr ⟨by decide, by decide, by omega⟩))
  have r5 : RP5 P a b 0 0 2 (w_put I4 70 (12 + P 6 0) b) := ⟨fun _ => by rw [w_put_ne _ 69 (by decide)]; exact a4, fun _ => w_put_same _ _ _ _, fun w => absurd w (by decide), fun w => absurd w (by decide)⟩
  generalize w_put I4 70 (12 + P 6 0) b = I5 at hM5 hG5 hT5 hF5 r5 ⊢
  -- the day
  have c116 : ∀ c ec J, x_day T n eb = .ok (c, ec) → GD T n ec J → MPX P J → MTX T n J → FrU I J → RP5 P a b c 0 3 J → V mX8_readPromise (w_Er l (d + 7) 0 0 Ω (w_pv (LM u v T n L I (x_day T n eb >>= fun c => x_hr T n c.2 >>= fun h => x_on T n (P 6 0) h.2 >>= fun l => .ok (s_addP P a b c.1 h.1 l.1, l.2)))) z) Ω 0 0 (SH u v) J L 116 [(0, .ref (Ω.1 + 63)), (1, .int (nI (12 + P 6 0)))] [] := by
    intro c ec J y3 hG6 hM6 hT6 hF6 r6
    rw [xb_ok y3] at t122 t135 t204 ⊢
    dsimp only at t122 t135 t204 ⊢
    refine V_aload_n 116 0 dX8_readPromise_116 rfl ?_
    refine V_lit 117 (w := 5) "at" (by decide) dX8_readPromise_117 ?_
    refine V_vv 119 mvX8_203 dX8_readPromise_119 ⟨_, _, _, rfl, rfl, rfl⟩ (w_fit.mono (by omega) hE) (m_word1 (d := d + 1) (w := 5) (by decide) hG6 hT6) rfl (Nat.le_of_ble_eq_true rfl) ?_
    rintro _ I7 _ ⟨rfl, rfl, g1, g2⟩
    have hM7 := hM6.x g1
    have hT7 := hT6.frx g1
    have hF7 : FrU I I7 := hF6.trans g1.u
    have r7 := r6.x (fun i p _ => g1.1 i p)
    rcases g2 with ⟨i1, hG7⟩ | ⟨i1, hB⟩
    rotate_left
    · exact t122 _ _ (xb_err (by unfold x_hr; rw [i1, if_neg (by decide)])) hB hF7
    have eh : x_hr T n ec = x_num T n (x_en T n ec) 0 12 2 := by unfold x_hr; rw [i1, if_pos rfl]
    rw [eh] at t135 t204 ⊢
    refine V_aload_n 122 0 dX8_readPromise_122 rfl ?_
    refine V_getR 123 flX8_34 dX8_readPromise_123 rfl ?_
    refine V_iload_n 126 1 dX8_readPromise_126 rfl ?_
    refine V_aload_n 127 0 dX8_readPromise_127 rfl ?_
    refine V_cst 128 0 dX8_readPromise_128 rfl ?_
    refine V_bip 129 11 dX8_readPromise_129 rfl ?_
    refine V_vi 131 mvX8_207 dX8_readPromise_131 ⟨_, _, _, rfl, rfl, rfl⟩ (w_fit.mono (by omega) hE) (m_readNumber1 (d := d + 4) (lo := 0) (top := 11) h256 (by decide) (by decide) hG7 hT7) rfl (Nat.le_of_ble_eq_true rfl) ?_
    rintro _ _ I8 _ ⟨rfl, rfl, g1, g2⟩
    have g2 : (∃ q, x_num T n (x_en T n ec) 0 12 2 = .ok q ∧ _ = nI q.1 ∧ GD T n q.2 I8) ∨ (∃ q, x_num T n (x_en T n ec) 0 12 2 = .error q ∧ BD q I8 ∧ ∃ y, _ = nI y) := g2
    have hM8 := hM7.x g1
    have hT8 := hT7.frx g1
    have hF8 : FrU I I8 := hF7.trans g1.u
    have r8 := r7.x (fun i p _ => g1.1 i p)
    rcases g2 with ⟨⟨h, eh2⟩, y4, rfl, hG8⟩ | ⟨q, y4, hB, y, rfl⟩
    rotate_left
    · refine V_iast 134 dX8_readPromise_134 rfl (by omega) (by omega) ?_
      exact t135 _ _ (xb_err y4) (hB.u (by decide)) (hF8.put (Or.inr (Or.inr ⟨by decide, by decide, by omega⟩)))
    have hG8 : GD T n eh2 I8 := hG8
    rw [xb_ok y4] at t204 ⊢
    dsimp only at t204 ⊢
    refine V_iast 134 dX8_readPromise_134 rfl (by omega) (by omega) ?_
    refine V_aload_n 135 0 dX8_readPromise_135 rfl ?_
    refine V_getR 136 flX8_37 dX8_readPromise_136 rfl ?_
    refine V_iload_n 139 1 dX8_readPromise_139 rfl ?_
    refine V_cst 140 0 dX8_readPromise_140 rfl ?_
    refine V_iast 141 dX8_readPromise_141 rfl (by omega) (by omega) ?_
    refine V_aload_n 142 0 dX8_readPromise_142 rfl ?_
    refine V_lit 143 (w := 6) "on" (by decide) dX8_readPromise_143 ?_
    have hM9 : MPX P (w_put (w_put I8 72 (12 + P 6 0) h) 73 (12 + P 6 0) 0) := (hM8.put (Or.inr ⟨by decide, by decide, rfl⟩)).put (Or.inr ⟨by decide, by decide, rfl⟩)
    have hG9 : GD T n eh2 (w_put (w_put I8 72 (12 + P 6 0) h) 73 (12 + P 6 0) 0) := (hG8.u (by decide)).u (by decide)
    have hT9 : MTX T n (w_put (w_put I8 72 (12 + P 6 0) h) 73 (12 + P 6 0) 0) := (hT8.u (by decide) (by decide)).u (by decide) (by decide)
    have hF9 : FrU I (w_put (w_put I8 72 (12 + P 6 0) h) 73 (12 + P 6 0) 0) := (hF8.put (Or.inr (Or.inr ⟨by decide, by decide, by omega⟩))).put (Or.inr (Or.inr ⟨by decide, by decide, by omega⟩))
    have r9 : RP5 P a b c h 4 (w_put (w_put I8 72 (12 + P 6 0) h) 73 (12 + P 6 0) 0) := by
      refine ⟨fun _ => ?_, fun _ => ?_, fun _ => ?_, fun _ => ?_⟩
      · rw [w_put_ne _ 69 (by decide), w_put_ne _ 69 (by decide)]; exact r8.1 (by decide)
      · rw [w_put_ne _ 70 (by decide), w_put_ne _ 70 (by decide)]; exact r8.2.1 (by decide)
      · rw [w_put_ne _ 71 (by decide), w_put_ne _ 71 (by decide)]; exact r8.2.2.1 (by decide)
      · rw [w_put_ne _ 72 (by decide), w_put_same]
    have z9 : w_put (w_put I8 72 (12 + P 6 0) h) 73 (12 + P 6 0) 0 73 (12 + P 6 0) = 0 := w_put_same _ _ _ _
    generalize w_put (w_put I8 72 (12 + P 6 0) h) 73 (12 + P 6 0) 0 = I9 at hM9 hG9 hT9 hF9 r9 z9 ⊢
    have fin : ∀ q J x, x_on T n (P 6 0) eh2 = .ok q → GD T n q.2 J → MPX P J → FrU I J → RP5 P a b c h 4 J → J 73 (12 + P 6 0) = q.1 → V mX8_readPromise (w_Er l (d + 7) 0 0 Ω (w_pv (LM u v T n L I (x_on T n (P 6 0) eh2 >>= fun l => .ok (s_addP P a b c h l.1, l.2)))) z) Ω 0 0 (SH u v) J L 204 [(0, .ref (Ω.1 + 63)), (1, .int (nI (12 + P 6 0))), (2, .int (nI x))] [] := by
      intro q J x y5 hG10 hM10 hF10 r10 z10
      refine V_aload_n 204 0 dX8_readPromise_204 rfl ?_
      refine V_getR 205 flX8_7 dX8_readPromise_205 rfl ?_
      refine V_cst 208 5 dX8_readPromise_208 rfl ?_
      refine V_dup2 209 dX8_readPromise_209 rfl rfl ?_
      refine V_iald 210 dX8_readPromise_210 rfl (by omega) (by omega) ?_
      rw [hM10.2.2.1]
      refine V_cst 211 1 dX8_readPromise_211 rfl ?_
      refine V_add 212 dX8_readPromise_212 ?_
      refine V_iast 213 dX8_readPromise_213 rfl (by omega) (by omega) ?_
      exact V_ret 214 dX8_readPromise_214 rfl ⟨rfl, rfl, hF10.put (Or.inl ⟨rfl, by decide⟩), Or.inr ⟨_, xb_ok y5, hG10.u (by decide), hM10.prom (r10.1 (by decide)) (r10.2.1 (by decide)) (r10.2.2.1 (by decide)) (r10.2.2.2 (by decide)) z10⟩⟩
    refine V_vi 145 mvX8_211 dX8_readPromise_145 ⟨_, _, _, rfl, rfl, rfl⟩ (w_fit.mono (by omega) hE) (m_passes1 (d := d + 1) (w := 6) (by decide) hG9 hT9) rfl (Nat.le_of_ble_eq_true rfl) ?_
    rintro _ _ I10 _ ⟨rfl, rfl, rfl, g1, g2⟩
    have hM10 := hM9.x g2
    have hT10 := hT9.frx g2
    have hF10 : FrU I I10 := hF9.trans g2.u
    have r10 := r9.x (fun i p _ => g2.1 i p)
    have z10 : I10 73 (12 + P 6 0) = 0 := by rw [g2.1 73 (by decide)]; exact z9
    cases ho : x_is T n eh2 6
    · rw [ho, if_neg (by decide)] at g1
      rw [if_neg (by decide)]
      refine V_istore_n 148 [(0, _), (1, _), (2, _)] dX8_readPromise_148 (by decide) rfl ?_
      refine V_iload_n 149 2 dX8_readPromise_149 rfl ?_
      refine V_zN_eq 150 204 dX8_readPromise_150 (by decide) (by omega) (fun c3 => ?_) (fun c3 => ?_)
      rotate_left
      · exact absurd rfl c3
      exact fin (0, eh2) I10 0 (by unfold x_on; rw [ho, if_neg (by decide)]) g1 hM10 hF10 r10 z10
    · rw [ho, if_pos rfl] at g1
      rw [if_pos rfl]
      have eo : x_on T n (P 6 0) eh2 = x_ls T n (P 6 0) 13 0 (x_en T n eh2) := by unfold x_on; rw [ho, if_pos rfl]
      refine V_istore_n 148 [(0, _), (1, _), (2, _)] dX8_readPromise_148 (by decide) rfl ?_
      refine rp_l (d := d + 4) (w_fit_r (d := d + 6)) h256 h12 13 0 (x_en T n eh2) I10 (by decide) (Nat.two_pow_pos _) hM10 g1 hT10 z10 (fun J x g3 g4 g5 => ?_)
      rcases g3 with ⟨q, y5, hB⟩ | ⟨q, y5, hG11, hM11, z11⟩
      · exact t204 q J x (xb_err (by rw [eo]; exact y5)) hB (hF10.trans g4)
      · exact fin q J x (by rw [eo]; exact y5) hG11 hM11 (hF10.trans g4) (r10.x g5) z11
  refine V_aload_n 90 0 dX8_readPromise_90 rfl ?_
  refine V_getR 91 flX8_31 dX8_readPromise_91 rfl ?_
  refine V_iload_n 94 1 dX8_readPromise_94 rfl ?_
  refine V_aload_n 95 0 dX8_readPromise_95 rfl ?_
  refine V_lit 96 (w := 4) "day" (by decide) dX8_readPromise_96 ?_
  refine V_vi 98 mvX8_211 dX8_readPromise_98 ⟨_, _, _, rfl, rfl, rfl⟩ (w_fit.mono (by omega) hE) (m_passes1 (d := d + 1) (w := 4) (by decide) hG5 hT5) rfl (Nat.le_of_ble_eq_true rfl) ?_
  rintro _ _ I6 _ ⟨rfl, rfl, rfl, g1, g2⟩
  have hM6 := hM5.x g2
  have hT6 := hT5.frx g2
  have hF6 : FrU I I6 := hF5.trans g2.u
  have r6 := r5.x (fun i p _ => g2.1 i p)
  cases ho : x_is T n eb 4
  · rw [ho, if_neg (by decide)] at g1
    rw [if_neg (by decide)]
    refine V_zN_eq 101 114 dX8_readPromise_101 (by decide) (by omega) (fun c3 => ?_) (fun c3 => ?_)
    rotate_left
    · exact absurd rfl c3
    refine V_cst 114 0 dX8_readPromise_114 rfl ?_
    refine V_iast 115 dX8_readPromise_115 rfl (by omega) (by omega) ?_
    refine c116 0 eb _ (by unfold x_day; rw [ho, if_neg (by decide)]) (g1.u (by decide)) (hM6.put (Or.inr ⟨by decide, by decide, rfl⟩)) (hT6.u (by decide) (by decide)) (hF6.put (Or.inr (Or.inr ⟨by decide, by decide, by omega⟩))) ⟨fun _ => ?_, fun _ => ?_, fun _ => w_put_same _ _ _ _, fun w => absurd w (by decide)⟩
    · rw [w_put_ne _ 69 (by decide)]; exact r6.1 (by decide)
    · rw [w_put_ne _ 70 (by decide)]; exact r6.2.1 (by decide)
  · rw [ho, if_pos rfl] at g1
    rw [if_pos rfl]
    have ed : x_day T n eb = x_num T n (x_en T n eb) 0 100 2 := by unfold x_day; rw [ho, if_pos rfl]
    refine V_zN_eq 101 114 dX8_readPromise_101 (by decide) (by omega) (fun c3 => ?_) (fun c3 => ?_)
    · exact absurd c3 (by decide)
    refine V_aload_n 104 0 dX8_readPromise_104 rfl ?_
    refine V_cst 105 0 dX8_readPromise_105 rfl ?_
    refine V_bip 106 99 dX8_readPromise_106 rfl ?_
    refine V_vi 108 mvX8_207 dX8_readPromise_108 ⟨_, _, _, rfl, rfl, rfl⟩ (w_fit.mono (by omega) hE) (m_readNumber1 (d := d + 4) (lo := 0) (top := 99) h256 (by decide) (by decide) g1 hT6) rfl (Nat.le_of_ble_eq_true rfl) ?_
    rintro _ _ I7 _ ⟨rfl, rfl, g3, g4⟩
    have g4 : (∃ q, x_num T n (x_en T n eb) 0 100 2 = .ok q ∧ _ = nI q.1 ∧ GD T n q.2 I7) ∨ (∃ q, x_num T n (x_en T n eb) 0 100 2 = .error q ∧ BD q I7 ∧ ∃ y, _ = nI y) := g4
    have hM7 := hM6.x g3
    have hT7 := hT6.frx g3
    have hF7 : FrU I I7 := hF6.trans g3.u
    have r7 := r6.x (fun i p _ => g3.1 i p)
    rcases g4 with ⟨⟨c, ec⟩, y4, rfl, hG7⟩ | ⟨q, y4, hB, y, rfl⟩
    · refine V_goto 111 115 dX8_readPromise_111 (by decide) ?_
      refine V_iast 115 dX8_readPromise_115 rfl (by omega) (by omega) ?_
      refine c116 c ec _ (ed.trans y4) (hG7.u (by decide)) (hM7.put (Or.inr ⟨by decide, by decide, rfl⟩)) (hT7.u (by decide) (by decide)) (hF7.put (Or.inr (Or.inr ⟨by decide, by decide, by omega⟩))) ⟨fun _ => ?_, fun _ => ?_, fun _ => w_put_same _ _ _ _, fun w => absurd w (by decide)⟩
      · rw [w_put_ne _ 69 (by decide)]; exact r7.1 (by decide)
      · rw [w_put_ne _ 70 (by decide)]; exact r7.2.1 (by decide)
    · refine V_goto 111 115 dX8_readPromise_111 (by decide) ?_
      refine V_iast 115 dX8_readPromise_115 rfl (by omega) (by omega) ?_
      exact t116 q _ (xb_err (ed.trans y4)) (hB.u (by decide)) (hF7.put (Or.inr (Or.inr ⟨by decide, by decide, by omega⟩)))
end
