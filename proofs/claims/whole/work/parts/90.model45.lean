section
variable {Ω : w_O} {d u v : Nat} {L : w_L} {E : w_E} {P : w_R} {σ : w_Z}
theorem r_W_q (si what : Nat) (hP : s_POK P) (hw : what < 2) : r_W si (r_p P what) (q_W P si what) (P 0 0) := by
  have h6 := hP.1.2
  intro i hi
  unfold q_W k_W r_p
  rw [if_pos (by omega)]
  have hb := bitN_iff si i
  unfold bitN at hb
  cases h : si.testBit i
  · rw [h] at hb
    rw [if_neg (fun q => absurd (hb.mp q) (by decide)), if_neg (show ¬ (false = true) by decide)]
    rcases (show what = 0 ∨ what = 1 by omega) with rfl | rfl
    · rw [if_pos (show ((0 : Nat) == 0) = true from rfl), if_neg (show ¬ ((0 : Nat) = 1) by decide)]
    · rw [if_neg (show ¬ (((1 : Nat) == 0) = true) by decide), if_pos rfl]
  · rw [h] at hb
    rw [if_pos (hb.mpr rfl), if_pos rfl]
theorem sgn_400 {b : Nat} (hb : b < 4294967296) : (sgn 1 ≤ sgn b ∧ sgn b ≤ sgn 400) ↔ (1 ≤ b ∧ b ≤ 400) := by
  rw [sgn_s (x := 1) (by omega), sgn_s (x := 400) (by omega)]
  unfold sgn
  split <;> omega
theorem m_keepN {I : w_I} {a b c e : Nat} (ha : a < 4294967296) (he : e < 4294967296) (hO : SOK σ) (hM : MInv σ I) (hn : ¬ (a < σ 0 6 0 ∧ q_st (σ 2) a = 1 ∧ e < 2)) : FnI Ω (d + 2) mX8_keep [.ref (Ω.1 + 63), .int (nI a), .int (nI b), .int (nI c), .int (nI e)] (SH u v) I L (MO u v L I σ 1 0) := by
  have hM1 : MInv σ (w_put I 63 0 0) := hM.code
  have h12 := hO.1.2.2.2.2.1
  refine FnR_of1 okX8_keep (Nat.le_of_ble_eq_true rfl) fun l z hE => ?_
  show V _ _ _ _ _ _ _ _ 0 [(0, _), (1, _), (2, _), (3, _), (4, _)] []
  have t34 : V mX8_keep (w_Er l (d + 1 + 1) 0 0 Ω (w_pi (MO u v L I σ 1 0)) z) Ω 0 0 (SH u v) (w_put I 63 0 0) L 34 [(0, .ref (Ω.1 + 63)), (1, .int (nI a)), (2, .int (nI b)), (3, .int (nI c)), (4, .int (nI e))] [] := by
    refine V_aload_n 34 0 dX8_keep_34 rfl ?_
    refine V_cst 35 1 dX8_keep_35 rfl ?_
    refine V_vi 36 mvX8_232 dX8_keep_36 ⟨_, _, _, rfl, rfl, rfl⟩ (w_fit.mono (by omega) hE) (m_fail (d := d) (x := 1)) rfl (Nat.le_of_ble_eq_true rfl) ?_
    rintro _ _ _ _ ⟨rfl, rfl, rfl, rfl⟩
    exact V_iret 39 dX8_keep_39 rfl ⟨rfl, rfl, w_put_same _ _ _ _, fun e => absurd e (by decide), hM1.code, (FrM.rf.put (by decide) (by decide)).put (by decide) (by decide)⟩
  refine V_aload_n 0 0 dX8_keep_0 rfl ?_
  refine V_cst 1 0 dX8_keep_1 rfl ?_
  refine V_putI 2 flX8_128 ft_8_0 dX8_keep_2 rfl ?_
  refine V_aload_n 5 0 dX8_keep_5 rfl ?_
  refine V_iload_n 6 1 dX8_keep_6 rfl ?_
  refine V_vi 7 mvX8_258 dX8_keep_7 ⟨_, _, _, rfl, rfl, rfl⟩ (w_fit.mono (by omega) hE) (m_isPromise (d := d) ha hO.1 hM1.1) rfl (Nat.le_of_ble_eq_true rfl) ?_
  rintro _ _ _ _ ⟨rfl, rfl, rfl, rfl⟩
  by_cases h1 : a < σ 0 6 0
  rotate_left
  · rw [if_neg h1]
    refine V_zN_eq 10 34 dX8_keep_10 (by decide) (by omega) (fun c1 => ?_) (fun c1 => ?_)
    · exact t34
    · exact absurd rfl c1
  rw [if_pos h1]
  have hs := q_st_lt (σ 2) a
  refine V_zN_eq 10 34 dX8_keep_10 (by decide) (by omega) (fun c1 => ?_) (fun c1 => ?_)
  · exact absurd c1 (by decide)
  refine V_aload_n 13 0 dX8_keep_13 rfl ?_
  refine V_getR 14 flX8_68 dX8_keep_14 rfl ?_
  refine V_iload_n 17 1 dX8_keep_17 rfl ?_
  refine V_iald 18 dX8_keep_18 rfl (by omega) (by omega) ?_
  rw [(hM1.2.2.1.st h1).1]
  refine V_cst 19 1 dX8_keep_19 rfl ?_
  refine V_cN_ne 20 34 dX8_keep_20 (by decide) (by omega) (by omega) (fun c2 => ?_) (fun c2 => ?_)
  · exact t34
  refine V_iload 23 4 dX8_keep_23 rfl ?_
  refine V_zN_lt 25 34 dX8_keep_25 (by decide) (by omega) (fun c3 => ?_) (fun c3 => ?_)
  · exact t34
  refine V_iload 28 4 dX8_keep_28 rfl ?_
  refine V_cst 30 1 dX8_keep_30 rfl ?_
  refine V_cN_le 31 40 dX8_keep_31 (by decide) (by omega) (by omega) (fun c4 => ?_) (fun c4 => ?_)
  · exact absurd ⟨h1, c2, by omega⟩ hn
  · exact t34
/-- up to where keep begins to count -/
theorem kp_65 {I : w_I} {a b c e : Nat} (hE : w_fit (d + 1) E) (ha : a < 4294967296) (hO : SOK σ) (hM1 : MInv σ I) (h1 : a < σ 0 6 0) (h2 : q_st (σ 2) a = 1) (h3 : e < 2) (hk : V mX8_keep E Ω 0 0 (SH u v) I L 40 [(0, .ref (Ω.1 + 63)), (1, .int (nI a)), (2, .int (nI b)), (3, .int (nI c)), (4, .int (nI e))] []) : V mX8_keep E Ω 0 0 (SH u v) I L 5 [(0, .ref (Ω.1 + 63)), (1, .int (nI a)), (2, .int (nI b)), (3, .int (nI c)), (4, .int (nI e))] [] := by
  have h12 := hO.1.2.2.2.2.1
  refine V_aload_n 5 0 dX8_keep_5 rfl ?_
  refine V_iload_n 6 1 dX8_keep_6 rfl ?_
  refine V_vi 7 mvX8_258 dX8_keep_7 ⟨_, _, _, rfl, rfl, rfl⟩ (w_fit.mono (by omega) hE) (m_isPromise (d := d) ha hO.1 hM1.1) rfl (Nat.le_of_ble_eq_true rfl) ?_
  rintro _ _ _ _ ⟨rfl, rfl, rfl, rfl⟩
  rw [if_pos h1]
  refine V_zN_eq 10 34 dX8_keep_10 (by decide) (by omega) (fun c1 => ?_) (fun c1 => ?_)
  · exact absurd c1 (by decide)
  refine V_aload_n 13 0 dX8_keep_13 rfl ?_
  refine V_getR 14 flX8_68 dX8_keep_14 rfl ?_
  refine V_iload_n 17 1 dX8_keep_17 rfl ?_
  refine V_iald 18 dX8_keep_18 rfl (by omega) (by omega) ?_
  rw [(hM1.2.2.1.st h1).1, h2]
  refine V_cst 19 1 dX8_keep_19 rfl ?_
  refine V_cN_ne 20 34 dX8_keep_20 (by decide) (by omega) (by omega) (fun c2 => ?_) (fun c2 => ?_)
  · exact absurd rfl c2
  refine V_iload 23 4 dX8_keep_23 rfl ?_
  refine V_zN_lt 25 34 dX8_keep_25 (by decide) (by omega) (fun c3 => ?_) (fun c3 => ?_)
  · omega
  refine V_iload 28 4 dX8_keep_28 rfl ?_
  refine V_cst 30 1 dX8_keep_30 rfl ?_
  refine V_cN_le 31 40 dX8_keep_31 (by decide) (by omega) (by omega) (fun c4 => ?_) (fun c4 => ?_)
  · exact hk
  · omega
theorem m_keepI {I : w_I} {a b c e : Nat} (ha : a < 4294967296) (hb : b < 4294967296) (hc : c < 4294967296) (hO : SOK σ) (hM : MInv σ I) (h1 : a < σ 0 6 0) (h2 : q_st (σ 2) a = 1) (h3 : e < 2) (hn : ¬ ((1 ≤ b ∧ b ≤ 400) ∧ c < 2 ^ σ 0 0 0)) : FnI Ω (d + 2) mX8_keep [.ref (Ω.1 + 63), .int (nI a), .int (nI b), .int (nI c), .int (nI e)] (SH u v) I L (MO u v L I σ 2 0) := by
  have hM1 : MInv σ (w_put I 63 0 0) := hM.code
  refine FnR_of1 okX8_keep (Nat.le_of_ble_eq_true rfl) fun l z hE => ?_
  show V _ _ _ _ _ _ _ _ 0 [(0, _), (1, _), (2, _), (3, _), (4, _)] []
  refine V_aload_n 0 0 dX8_keep_0 rfl ?_
  refine V_cst 1 0 dX8_keep_1 rfl ?_
  refine V_putI 2 flX8_128 ft_8_0 dX8_keep_2 rfl ?_
  refine kp_65 (d := d) hE ha hO hM1 h1 h2 h3 ?_
  have t59 : V mX8_keep (w_Er l (d + 1 + 1) 0 0 Ω (w_pi (MO u v L I σ 2 0)) z) Ω 0 0 (SH u v) (w_put I 63 0 0) L 59 [(0, .ref (Ω.1 + 63)), (1, .int (nI a)), (2, .int (nI b)), (3, .int (nI c)), (4, .int (nI e))] [] := by
    refine V_aload_n 59 0 dX8_keep_59 rfl ?_
    refine V_cst 60 2 dX8_keep_60 rfl ?_
    refine V_vi 61 mvX8_232 dX8_keep_61 ⟨_, _, _, rfl, rfl, rfl⟩ (w_fit.mono (by omega) hE) (m_fail (d := d) (x := 2)) rfl (Nat.le_of_ble_eq_true rfl) ?_
    rintro _ _ _ _ ⟨rfl, rfl, rfl, rfl⟩
    exact V_iret 64 dX8_keep_64 rfl ⟨rfl, rfl, w_put_same _ _ _ _, fun e => absurd e (by decide), hM1.code, (FrM.rf.put (by decide) (by decide)).put (by decide) (by decide)⟩
  refine V_iload_n 40 2 dX8_keep_40 rfl ?_
  refine V_cst 41 1 dX8_keep_41 rfl ?_
  refine V_sip 42 400 dX8_keep_42 rfl ?_
  refine V_si 45 msX8_131 dX8_keep_45 (w_fit.mono (by omega) hE) (m_isIn (d := d) (a := b) (lo := 1) (hi := 400) hb (by decide) (by decide)) rfl (Nat.le_of_ble_eq_true rfl) ?_
  rintro _ _ _ _ ⟨rfl, rfl, rfl, rfl⟩
  simp only [sgn_400 hb]
  by_cases h4 : 1 ≤ b ∧ b ≤ 400
  rotate_left
  · rw [if_neg h4]
    refine V_zN_eq 48 59 dX8_keep_48 (by decide) (by omega) (fun c1 => ?_) (fun c1 => ?_)
    · exact t59
    · exact absurd rfl c1
  rw [if_pos h4]
  refine V_zN_eq 48 59 dX8_keep_48 (by decide) (by omega) (fun c1 => ?_) (fun c1 => ?_)
  · exact absurd c1 (by decide)
  refine V_aload_n 51 0 dX8_keep_51 rfl ?_
  refine V_iload_n 52 3 dX8_keep_52 rfl ?_
  refine V_vi 53 mvX8_334 dX8_keep_53 ⟨_, _, _, rfl, rfl, rfl⟩ (w_fit.mono (by omega) hE) (m_isSets (d := d) hc hO.1 hM1.1) rfl (Nat.le_of_ble_eq_true rfl) ?_
  rintro _ _ _ _ ⟨rfl, rfl, rfl, rfl⟩
  rw [if_neg (fun q => hn ⟨h4, q⟩)]
  refine V_zN_ne 56 65 dX8_keep_56 (by decide) (by omega) (fun c2 => ?_) (fun c2 => ?_)
  · exact absurd rfl c2
  exact t59
theorem m_keep {I : w_I} {a b c e : Nat} (ha : a < 4294967296) (hO : SOK σ) (hKP : KPl σ) (hM : MInv σ I) (hS : I 63 52 < 1000000000) (h1 : a < σ 0 6 0) (h2 : q_st (σ 2) a = 1) (h3 : e < 2) (h4 : 1 ≤ b ∧ b ≤ 400) (h5 : c < 2 ^ σ 0 0 0) : FnI Ω (d + 69) mX8_keep [.ref (Ω.1 + 63), .int (nI a), .int (nI b), .int (nI c), .int (nI e)] (SH u v) I L (fun r S' I' L' => S' = SH u v ∧ L = L' ∧ I' 63 0 = 0 ∧ FrM I I' ∧ ((FAR ≤ q_best σ a b c e ∧ r = nI mI ∧ MInv σ I') ∨ (q_best σ a b c e < FAR ∧ r = nI (q_best σ a b c e / 1048576) ∧ MInv (z_kept σ (q_best σ a b c e)) I'))) := by
  have hM1 : MInv σ (w_put I 63 0 0) := hM.code
  have h6 := hO.1.1.2
  have h12 := hO.1.2.2.1
  have hp12 := hO.1.2.2.2.2.1
  have h64 : 2 ^ σ 0 0 0 ≤ 64 := Nat.pow_le_pow_right (n := 2) (j := 6) (by decide) h6
  have hpos : 0 < 2 ^ σ 0 0 0 := Nat.two_pow_pos _
  have hNV : NVR = 1000000000 := rfl
  have hks : e = 0 ∨ e = 1 := by omega
  have hJ : FrM I (w_put I 63 0 0) := FrM.rf.put (by decide) (by decide)
  have c0 : w_put I 63 0 0 63 0 = 0 := w_put_same _ _ _ _
  have c52 : w_put I 63 0 0 63 52 = I 63 52 := w_put_other _ (Or.inr (by decide))
  refine FnR_of1 (d := d + 68) okX8_keep (Nat.le_of_ble_eq_true rfl) fun l z hE => ?_
  show V _ _ _ _ _ _ _ _ 0 [(0, _), (1, _), (2, _), (3, _), (4, _)] []
  refine V_aload_n 0 0 dX8_keep_0 rfl ?_
  refine V_cst 1 0 dX8_keep_1 rfl ?_
  refine V_putI 2 flX8_128 ft_8_0 dX8_keep_2 rfl ?_
  generalize w_put I 63 0 0 = J at hM1 hJ c0 c52 ⊢
  refine kp_65 (d := d) (w_fit.mono (by omega) hE) ha hO hM1 h1 h2 h3 ?_
  refine V_iload_n 40 2 dX8_keep_40 rfl ?_
  refine V_cst 41 1 dX8_keep_41 rfl ?_
  refine V_sip 42 400 dX8_keep_42 rfl ?_
  refine V_si 45 msX8_131 dX8_keep_45 (w_fit.mono (by omega) hE) (m_isIn (d := d) (a := b) (lo := 1) (hi := 400) (by omega) (by decide) (by decide)) rfl (Nat.le_of_ble_eq_true rfl) ?_
  rintro _ _ _ _ ⟨rfl, rfl, rfl, rfl⟩
  simp only [sgn_400 (show b < 4294967296 by omega)]
  rw [if_pos h4]
  refine V_zN_eq 48 59 dX8_keep_48 (by decide) (by omega) (fun c1 => ?_) (fun c1 => ?_)
  · exact absurd c1 (by decide)
  refine V_aload_n 51 0 dX8_keep_51 rfl ?_
  refine V_iload_n 52 3 dX8_keep_52 rfl ?_
  refine V_vi 53 mvX8_334 dX8_keep_53 ⟨_, _, _, rfl, rfl, rfl⟩ (w_fit.mono (by omega) hE) (m_isSets (d := d) (show c < 4294967296 by omega) hO.1 hM1.1) rfl (Nat.le_of_ble_eq_true rfl) ?_
  rintro _ _ _ _ ⟨rfl, rfl, rfl, rfl⟩
  rw [if_pos h5]
  refine V_zN_ne 56 65 dX8_keep_56 (by decide) (by omega) (fun c2 => ?_) (fun c2 => ?_)
  rotate_left
  · exact absurd c2 (by decide)
  have hK64 : σ 2 8 a < 64 := by have := hKP.1 a; omega
  have k78 : V mX8_keep (w_Er l (d + 68 + 1) 0 0 Ω (w_pi (fun r S' I' L' => S' = SH u v ∧ L = L' ∧ I' 63 0 = 0 ∧ FrM I I' ∧ ((FAR ≤ q_best σ a b c e ∧ r = nI mI ∧ MInv σ I') ∨ (q_best σ a b c e < FAR ∧ r = nI (q_best σ a b c e / 1048576) ∧ MInv (z_kept σ (q_best σ a b c e)) I')))) z) Ω 0 0 (SH u v) J L 78 [(0, .ref (Ω.1 + 63)), (1, .int (nI a)), (2, .int (nI b)), (3, .int (nI c)), (4, .int (nI e))] [.int (nI e), .int (nI c), .ref (Ω.1 + 63)] := by
    refine V_vv 78 mvX8_337 dX8_keep_78 ⟨_, _, _, rfl, rfl, rfl⟩ (w_fit.mono (by omega) hE) (m_beginFares (d := d) (si := c) (ks := e) hks hO.1 hM1.1) rfl (Nat.le_of_ble_eq_true rfl) ?_
    rintro _ J1 _ ⟨rfl, rfl, k1, k2, k3, k4, k5⟩
    have e87 : J1 84 a = σ 2 8 a := by rw [k5.1 84 (by decide) (by decide)]; exact (hM1.2.2.1.st h1).2
    refine V_aload_n 81 0 dX8_keep_81 rfl ?_
    refine V_aload_n 82 0 dX8_keep_82 rfl ?_
    refine V_getR 83 flX8_74 dX8_keep_83 rfl ?_
    refine V_iload_n 86 1 dX8_keep_86 rfl ?_
    refine V_iald 87 dX8_keep_87 rfl (by omega) (by omega) ?_
    rw [e87]
    refine V_iload_n 88 2 dX8_keep_88 rfl ?_
    refine V_cst 89 1 dX8_keep_89 rfl ?_
    refine V_sub1 90 dX8_keep_90 (by omega) ?_
    refine V_vv 91 mvX8_341 dX8_keep_91 ⟨_, _, _, rfl, rfl, rfl⟩ (w_fit.mono (by omega) hE) (m_tellLeast (d := d) (K := σ 2 8 a) (si := c) (ks := e) (da := b - 1) (W := q_W (σ 0) c e) hO.1 k1 hks (by omega) (hKP.1 a) (hM1.2.2.2.2.2.2.2.of k3 k4) k2 (by omega) (by rw [k3]; omega) (r_W_q c e hO.1 h3)) rfl (Nat.le_of_ble_eq_true rfl) ?_
    rintro _ J2 _ ⟨rfl, rfl, g1, g2, g3, g4, g5, g6, g7⟩
    have f2 : FrK J J2 := k5.trans g7
    have e87b : J2 84 a = σ 2 8 a := by rw [f2.1 84 (by decide) (by decide)]; exact (hM1.2.2.1.st h1).2
    have hf : ∀ h, h < 2 ^ σ 0 0 0 → J2 88 h = NVR ∨ J2 88 h ≤ 475000 := fun h hh => by
      rcases (g6 h hh).1 with q | q
      · exact Or.inl q
      · exact Or.inr (by omega)
    refine V_aload_n 94 0 dX8_keep_94 rfl ?_
    refine V_aload_n 95 0 dX8_keep_95 rfl ?_
    refine V_getR 96 flX8_74 dX8_keep_96 rfl ?_
    refine V_iload_n 99 1 dX8_keep_99 rfl ?_
    refine V_iald 100 dX8_keep_100 rfl (by omega) (by omega) ?_
    rw [e87b]
    refine V_vv 101 mvX8_344 dX8_keep_101 ⟨_, _, _, rfl, rfl, rfl⟩ (w_fit.mono (by omega) hE) (m_tellDay (d := d) (K := σ 2 8 a) (si := c) (ks := e) (m := 475000) (f := J2 88) hO.1 g1 hks hK64 (by omega) (by decide) (fun _ _ => rfl) hf) rfl (Nat.le_of_ble_eq_true rfl) ?_
    rintro _ J3 _ ⟨rfl, rfl, t1, t2, t3⟩
    have f3 : FrK J J3 := f2.trans ⟨fun i w1 w2 => by rw [t3 i (by omega), w_put_ne _ _ w1], fun j hj => by rw [t3 63 (by decide), w_put_other _ (Or.inr (by omega))]⟩
    have s3 : J3 63 52 = J2 63 52 := by rw [t3 63 (by decide), w_put_other _ (Or.inr (by decide))]
    have hMS3 : MS J3 := g2.of s3 (by rw [t3 97 (by decide), w_put_ne _ 97 (by decide)])
    have hK3 : KF (σ 0) c e J3 := ⟨f3.mp hM1.1, by rw [t3 63 (by decide), w_put_other _ (Or.inr (by decide))]; exact g1.2.1, by rw [t3 63 (by decide), w_put_other _ (Or.inr (by decide))]; exact g1.2.2.1, fun j hj => by rw [t3 87 (by decide), w_put_ne _ 87 (by decide)]; exact g1.2.2.2 j hj⟩
    have hM3 : MInv σ J3 := hM1.k f3 hMS3
    have hFr3 : FrM I J3 := hJ.k f3 (by omega) c52
    have c3 : J3 63 0 = 0 := by rw [f3.2 0 (by decide)]; exact c0
    have hkey := keep_eq (K := σ 2 8 a) (si := c) (w := r_p (σ 0) e) (f := J2 88) (W := q_W (σ 0) c e) (dd := b - 1) (m := 475000) hO.1 (r_p_le hO.1) (r_W_q c e hO.1 h3) (hKP.1 a) (by omega) (by decide) hf (fun h s cc r hne hR => by
      obtain ⟨b1, -, -, -, b5, -⟩ := rR_b hO.1 (r_p_le hO.1) (σ 0 2 0) (Nat.le_refl _) _ _ _ _ _ hR
      have q1 := (g4 h (by omega)).2 s cc r hR
      exact (g6 h b1).2 (g5 h (by omega) b1 (by omega)) hne)
    have hb0 : J3 92 (r_i 0 0 0 0) = rB (σ 0) (σ 2 8 a) c (r_p (σ 0) e) (J2 88) (σ 0 2 0) 0 0 0 := t1 0 (Nat.le_refl _) (Nat.zero_le _) 0 0 0 hpos hpos (by decide)
    have hqb : q_best σ a b c e = k_best (σ 0) (q_W (σ 0) c e) (σ 2 8 a) (b - 1) := rfl
    rw [← hqb] at hkey
    refine V_aload_n 104 0 dX8_keep_104 rfl ?_
    refine V_getR 105 flX8_100 dX8_keep_105 rfl ?_
    refine V_cst 108 0 dX8_keep_108 rfl ?_
    refine V_cst 109 0 dX8_keep_109 rfl ?_
    refine V_cst 110 0 dX8_keep_110 rfl ?_
    refine V_cst 111 0 dX8_keep_111 rfl ?_
    refine V_si 112 msX8_291 dX8_keep_112 (w_fit.mono (by omega) hE) (m_cellOf (d := d) (i := 0) (h := 0) (s := 0) (a := 0) (by decide) (by decide) (by decide) (by decide)) rfl (Nat.le_of_ble_eq_true rfl) ?_
    rintro _ _ _ _ ⟨rfl, rfl, rfl, rfl⟩
    rw [show ((0 * 64 + 0) * 64 + 0) * 2 + 0 = r_i 0 0 0 0 from rfl]
    have hx0 : r_i 0 0 0 0 < 106496 := by decide
    refine V_iald 115 dX8_keep_115 rfl (by omega) (by omega) ?_
    rw [hb0]
    rcases hkey with ⟨v1, v2⟩ | ⟨v1, v2, v3⟩
    · rw [v1]
      refine V_istore 116 [(0, _), (1, _), (2, _), (3, _), (4, _), (5, _)] dX8_keep_116 (by decide) rfl ?_
      refine V_iload 118 5 dX8_keep_118 rfl ?_
      refine V_ldcwN 120 1000000000 kcX8_301 dX8_keep_120 rfl ?_
      refine V_cN_ne 123 128 dX8_keep_123 (by decide) (by omega) (by omega) (fun c4 => ?_) (fun c4 => ?_)
      · exact absurd rfl c4
      refine V_cst 126 4294967295 dX8_keep_126 rfl ?_
      exact V_iret 127 dX8_keep_127 rfl ⟨rfl, rfl, c3, hFr3, Or.inl ⟨v2, rfl, hM3⟩⟩
    · have hPl : rP (σ 0) (σ 2 8 a) c (r_p (σ 0) e) (J2 88) (σ 0 2 0) 0 0 0 < 1048576 := by
        have q1 := rP_lt (P := σ 0) (K := σ 2 8 a) (si := c) (w := r_p (σ 0) e) (f := J2 88) hO.1 (σ 0 2 0) (Nat.le_refl _) 0 0 0
        have q2 : 3 ^ (12 - (σ 0 2 0 - σ 0 2 0)) ≤ 3 ^ 12 := Nat.pow_le_pow_right (by decide) (by omega)
        have q3 : 3 ^ 12 = 531441 := by decide
        omega
      generalize rB (σ 0) (σ 2 8 a) c (r_p (σ 0) e) (J2 88) (σ 0 2 0) 0 0 0 = vv at v1 v3 ⊢
      refine V_istore 116 [(0, _), (1, _), (2, _), (3, _), (4, _), (5, _)] dX8_keep_116 (by decide) rfl ?_
      refine V_iload 118 5 dX8_keep_118 rfl ?_
      refine V_ldcwN 120 1000000000 kcX8_301 dX8_keep_120 rfl ?_
      refine V_cN_ne 123 128 dX8_keep_123 (by decide) (by omega) (by omega) (fun c4 => ?_) (fun c4 => ?_)
      rotate_left
      · omega
      refine V_aload_n 128 0 dX8_keep_128 rfl ?_
      refine V_vv 129 mvX8_347 dX8_keep_129 ⟨_, _, _, rfl, rfl, rfl⟩ (w_fit.mono (by omega) hE) (m_layRow (d := d) (K := σ 2 8 a) (si := c) (ks := e) (m := 475000) (f := J2 88) hO.1 hK3 hks t2 hK64 (by omega) (by decide) hf t1) rfl (Nat.le_of_ble_eq_true rfl) ?_
      rintro _ J4 _ ⟨rfl, rfl, r1, r2, r3, r4⟩
      refine V_iload 132 5 dX8_keep_132 rfl ?_
      generalize hrow : rP (σ 0) (σ 2 8 a) c (r_p (σ 0) e) (J2 88) (σ 0 2 0) 0 0 0 = rr at v3 hPl r1
      have hdiv : q_best σ a b c e / 1048576 = vv := by rw [v3]; exact Nat.div_eq_of_lt_le (by omega) (by omega)
      have hmod : q_best σ a b c e % 1048576 = rr := by
        rw [v3, Nat.mul_comm, Nat.mul_add_mod, Nat.mod_eq_of_lt hPl]
      refine V_iret 134 dX8_keep_134 rfl ⟨rfl, rfl, by rw [r3 0 (by decide)]; exact c3, ⟨fun i hi => by rw [r4 i (by omega) (by omega) (by omega)]; exact hFr3.1 i hi, by rw [r3 52 (by decide)]; exact hFr3.2⟩, Or.inr ⟨v2, by rw [hdiv], ?_⟩⟩
      obtain ⟨y1, y2, y3, y4, y5, y6, y7, y8⟩ := hM3
      refine ⟨y1.of (fun i _ _ => r4 i (by omega) (by omega) (by omega)), y2.of (r3 _ (by decide)) (fun i _ _ => r4 i (by omega) (by omega) (by omega)), y3.of (fun i _ _ => r4 i (by omega) (by omega) (by omega)), ?_, ?_, ?_, ?_, y8.of (r3 _ (by decide)) (r4 _ (by decide) (by decide) (by decide))⟩
      · exact y4.of (r3 _ (by decide)) (r4 _ (by decide) (by decide) (by decide))
      · exact y5.of (r3 _ (by decide)) (r4 _ (by decide) (by decide) (by decide))
      · refine ⟨r2, Or.inr ⟨rfl, fun mm hmm => ?_⟩⟩
        show J4 91 mm = q_row (σ 0) (q_best σ a b c e) mm
        have hmem : mm ∈ s_ord (σ 0) := (s_ord_mem hO.1).mpr hmm
        have hidx : (s_ord (σ 0)).idxOf mm < (s_ord (σ 0)).length := List.idxOf_lt_length_of_mem hmem
        have hrm : r_m (σ 0) ((s_ord (σ 0)).idxOf mm) = mm := by
          unfold r_m
          rw [List.getD_eq_getElem?_getD, List.getElem?_eq_getElem hidx]
          exact List.getElem_idxOf hidx
        rw [s_ord_len hO.1] at hidx
        have := r1 _ hidx
        rw [hrm] at this
        rw [this]
        unfold q_row
        rw [hmod]
      · exact y7.of (r3 _ (by decide)) (r3 _ (by decide)) (fun i hi => r4 i (by omega) (by omega) (by omega))
  refine V_aload_n 65 0 dX8_keep_65 rfl ?_
  refine V_iload_n 66 3 dX8_keep_66 rfl ?_
  refine V_iload 67 4 dX8_keep_67 rfl ?_
  refine V_cst 69 1 dX8_keep_69 rfl ?_
  rcases hks with rfl | rfl
  · refine V_cN_ne 70 77 dX8_keep_70 (by decide) (by omega) (by omega) (fun c3 => ?_) (fun c3 => ?_)
    rotate_left
    · exact absurd c3 (by decide)
    refine V_cst 77 0 dX8_keep_77 rfl ?_
    exact k78
  · refine V_cN_ne 70 77 dX8_keep_70 (by decide) (by omega) (by omega) (fun c3 => ?_) (fun c3 => ?_)
    · exact absurd rfl c3
    refine V_cst 73 1 dX8_keep_73 rfl ?_
    refine V_goto 74 78 dX8_keep_74 (by decide) ?_
    exact k78
end
