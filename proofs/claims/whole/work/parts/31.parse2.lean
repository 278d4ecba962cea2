section
variable {Ω : w_O} {d u v : Nat} {L : w_L} {E : w_E} {T : Nat → Nat} {n : Nat} {P : w_R}
/-! takePerson, takeOther, takeDay, takeHour, takeLeans -/
theorem c_takePerson {I : w_I} {e : Nat} (hP : s_POK P) (hRP : PRep 3 P I) (hR : RT T n e I) (hT : TX T n I) (h256 : ∀ j, T j < 256) (he : e ≤ n) : FnI Ω (d + 2) mX4_takePerson [.ref (Ω.1 + 2)] (SH u v) I L (fun r S' I' L' => S' = SH u v ∧ L = L' ∧ RQ (x_num T n e 0 (P 0 0) 3) r I I' (fun q => I' 2 7 = q.1 ∧ RT T n q.2 I') ∧ FrR I I') := by
  have h1 := hP.1
  refine FnR_of okX4_takePerson (Nat.le_of_ble_eq_true rfl) fun l z => ?_
  have hE : w_fit (d + 1) (w_Er l (d + 2) 0 0 Ω (w_pi (fun r S' I' L' => S' = SH u v ∧ L = L' ∧ RQ (x_num T n e 0 (P 0 0) 3) r I I' (fun q => I' 2 7 = q.1 ∧ RT T n q.2 I') ∧ FrR I I')) z) := w_fit_r
  show V _ _ _ _ _ _ _ _ 0 [(0, _)] []
  refine V_aload_n 0 0 dX4_takePerson_0 rfl ?_
  refine V_cst 1 0 dX4_takePerson_1 rfl ?_
  refine V_aload_n 2 0 dX4_takePerson_2 rfl ?_
  refine V_getR 3 flX4_12 dX4_takePerson_3 rfl ?_
  refine V_getI 6 flX4_86 dX4_takePerson_6 rfl ?_
  rw [hRP.1]
  refine V_cst 9 1 dX4_takePerson_9 rfl ?_
  refine V_sub1 10 dX4_takePerson_10 (by omega) ?_
  refine V_cst 11 3 dX4_takePerson_11 rfl ?_
  refine V_vi 12 mvX4_79 dX4_takePerson_12 ⟨_, _, _, rfl, rfl, rfl⟩ (w_fit.mono (by omega) hE) (c_takeNumber (d := d) (lo := 0) (hi := P 0 0) (f := 3) hR hT h256 he (by omega) (by omega) (Or.inl ⟨by omega, rfl⟩)) rfl (Nat.le_of_ble_eq_true rfl) ?_
  rintro r _ I1 _ ⟨rfl, rfl, g1, g2⟩
  refine V_zret 15 dX4_takePerson_15 rfl ?_ ⟨rfl, rfl, g1, g2⟩
  rcases g1 with ⟨_, _, _, rfl, _⟩ | ⟨_, _, rfl, _⟩ <;> rfl
theorem c_takeOther {I : w_I} {e a : Nat} (ha : a < 1000) (hP : s_POK P) (hRP : PRep 3 P I) (hR : RT T n e I) (hT : TX T n I) (h256 : ∀ j, T j < 256) (he : e ≤ n) : FnI Ω (d + 2) mX4_takeOther [.ref (Ω.1 + 2), .int (nI a)] (SH u v) I L (fun r S' I' L' => S' = SH u v ∧ L = L' ∧ RQ (x_oth T n e a (P 0 0)) r I I' (fun q => I' 2 7 = q.1 ∧ RT T n q.2 I') ∧ FrR I I') := by
  have hmI : mI = 4294967295 := rfl
  have h1 := hP.1
  have hkd := x_kd_lt (T := T) (n := n) e
  have hva := x_va_lt (n := n) h256 e
  refine FnR_of okX4_takeOther (Nat.le_of_ble_eq_true rfl) fun l z => ?_
  have hE : w_fit (d + 1) (w_Er l (d + 2) 0 0 Ω (w_pi (fun r S' I' L' => S' = SH u v ∧ L = L' ∧ RQ (x_oth T n e a (P 0 0)) r I I' (fun q => I' 2 7 = q.1 ∧ RT T n q.2 I') ∧ FrR I I')) z) := w_fit_r
  show V _ _ _ _ _ _ _ _ 0 [(0, _), (1, _)] []
  have k22 : ¬ (x_kd T n e = 2 ∧ x_va T n e = a) → V mX4_takeOther (w_Er l (d + 2) 0 0 Ω (w_pi (fun r S' I' L' => S' = SH u v ∧ L = L' ∧ RQ (x_oth T n e a (P 0 0)) r I I' (fun q => I' 2 7 = q.1 ∧ RT T n q.2 I') ∧ FrR I I')) z) Ω 0 0 (SH u v) I L 22 [(0, .ref (Ω.1 + 2)), (1, .int (nI a))] [] := by
    intro h
    refine V_aload_n 22 0 dX4_takeOther_22 rfl ?_
    refine V_cst 23 0 dX4_takeOther_23 rfl ?_
    refine V_aload_n 24 0 dX4_takeOther_24 rfl ?_
    refine V_getR 25 flX4_12 dX4_takeOther_25 rfl ?_
    refine V_getI 28 flX4_86 dX4_takeOther_28 rfl ?_
    rw [hRP.1]
    refine V_cst 31 1 dX4_takeOther_31 rfl ?_
    refine V_sub1 32 dX4_takeOther_32 (by omega) ?_
    refine V_cst 33 3 dX4_takeOther_33 rfl ?_
    refine V_vi 34 mvX4_79 dX4_takeOther_34 ⟨_, _, _, rfl, rfl, rfl⟩ (w_fit.mono (by omega) hE) (c_takeNumber (d := d) (lo := 0) (hi := P 0 0) (f := 3) hR hT h256 he (by omega) (by omega) (Or.inl ⟨by omega, rfl⟩)) rfl (Nat.le_of_ble_eq_true rfl) ?_
    rintro r _ I1 _ ⟨rfl, rfl, g1, g2⟩
    have e1 : x_oth T n e a (P 0 0) = x_num T n e 0 (P 0 0) 3 := by unfold x_oth; rw [if_neg h]
    refine V_zret 37 dX4_takeOther_37 rfl ?_ ⟨rfl, rfl, by rw [e1]; exact g1, g2⟩
    rcases g1 with ⟨_, _, _, rfl, _⟩ | ⟨_, _, rfl, _⟩ <;> rfl
  refine V_aload_n 0 0 dX4_takeOther_0 rfl ?_
  refine V_getI 1 flX4_38 dX4_takeOther_1 rfl ?_
  refine V_cst 4 2 dX4_takeOther_4 rfl ?_
  rw [hR.2.1]
  refine V_cN_ne 5 22 dX4_takeOther_5 (by decide) (by omega) (by omega) (fun c => ?_) (fun c => ?_)
  · exact k22 (fun h => c h.1)
  refine V_aload_n 8 0 dX4_takeOther_8 rfl ?_
  refine V_getI 9 flX4_117 dX4_takeOther_9 rfl ?_
  refine V_iload_n 12 1 dX4_takeOther_12 rfl ?_
  rw [hR.2.2.2.2]
  refine V_cN_ne 13 22 dX4_takeOther_13 (by decide) (by omega) (by omega) (fun c1 => ?_) (fun c1 => ?_)
  · exact k22 (fun h => c1 h.2)
  refine V_aload_n 16 0 dX4_takeOther_16 rfl ?_
  refine V_cst 17 4 dX4_takeOther_17 rfl ?_
  refine V_vi 18 mvX4_55 dX4_takeOther_18 ⟨_, _, _, rfl, rfl, rfl⟩ (w_fit.mono (by omega) hE) (c_refuse (d := d)) rfl (Nat.le_of_ble_eq_true rfl) ?_
  rintro _ _ I1 _ ⟨rfl, rfl, rfl, g1, g2, g3⟩
  refine V_zret 21 dX4_takeOther_21 rfl rfl ⟨rfl, rfl, Or.inl ⟨4, x_st T n e, ?_, rfl, g1, by rw [g2, hR.2.2.1]⟩, g3⟩
  unfold x_oth
  rw [if_pos ⟨c, c1⟩]
theorem c_takeDay {I : w_I} {e : Nat} (hR : RT T n e I) (hT : TX T n I) (h256 : ∀ j, T j < 256) (he : e ≤ n) : FnI Ω (d + 5) mX4_takeDay [.ref (Ω.1 + 2)] (SH u v) I L (fun r S' I' L' => S' = SH u v ∧ L = L' ∧ RQ (x_day T n e) r I I' (fun q => I' 2 7 = q.1 ∧ RT T n q.2 I') ∧ FrR I I') := by
  have hen := x_en_le (T := T) he
  have hR' : RT T n e (w_put I 2 7 0) := hR.put (by decide)
  have hT' : TX T n (w_put I 2 7 0) := hT.fr (w_put_ne _ _ (by decide))
  refine FnR_of okX4_takeDay (Nat.le_of_ble_eq_true rfl) fun l z => ?_
  have hE : w_fit (d + 4) (w_Er l (d + 5) 0 0 Ω (w_pi (fun r S' I' L' => S' = SH u v ∧ L = L' ∧ RQ (x_day T n e) r I I' (fun q => I' 2 7 = q.1 ∧ RT T n q.2 I') ∧ FrR I I')) z) := w_fit_r
  show V _ _ _ _ _ _ _ _ 0 [(0, _)] []
  refine V_aload_n 0 0 dX4_takeDay_0 rfl ?_
  refine V_cst 1 0 dX4_takeDay_1 rfl ?_
  refine V_putI 2 flX4_83 ft_4_7 dX4_takeDay_2 rfl ?_
  refine V_aload_n 5 0 dX4_takeDay_5 rfl ?_
  refine V_lit 6 (w := 4) "day" (by decide) dX4_takeDay_6 ?_
  refine V_vi 8 mvX4_47 dX4_takeDay_8 ⟨_, _, _, rfl, rfl, rfl⟩ (w_fit.mono (by omega) hE) (c_isWord (d := d) (w := 4) (by decide) hR' hT' he) rfl (Nat.le_of_ble_eq_true rfl) ?_
  rintro _ _ _ _ ⟨rfl, rfl, rfl, rfl⟩
  by_cases hw : x_is T n e 4 = true
  · rw [if_pos hw]
    refine V_zN_ne 11 16 dX4_takeDay_11 (by decide) (by omega) (fun c => ?_) (fun c => ?_)
    · refine V_aload_n 16 0 dX4_takeDay_16 rfl ?_
      refine V_vv 17 mvX4_35 dX4_takeDay_17 ⟨_, _, _, rfl, rfl, rfl⟩ (w_fit.mono (by omega) hE) (c_advance (d := d) (T := T) (n := n) (e := x_en T n e) hR'.1 hR'.2.2.2.1 hen.2.2 hT') rfl (Nat.le_of_ble_eq_true rfl) ?_
      rintro _ I1 _ ⟨rfl, rfl, g1, g2⟩
      refine V_aload_n 20 0 dX4_takeDay_20 rfl ?_
      refine V_cst 21 0 dX4_takeDay_21 rfl ?_
      refine V_bip 22 99 dX4_takeDay_22 rfl ?_
      refine V_cst 24 2 dX4_takeDay_24 rfl ?_
      refine V_vi 25 mvX4_79 dX4_takeDay_25 ⟨_, _, _, rfl, rfl, rfl⟩ (w_fit.mono (by omega) hE) (c_takeNumber (d := d) (lo := 0) (hi := 100) (f := 2) g1 (hT'.fr (g2.1 1 (by decide))) h256 hen.2.2 (by decide) (by decide) (Or.inl ⟨by decide, rfl⟩)) rfl (Nat.le_of_ble_eq_true rfl) ?_
      rintro r _ I2 _ ⟨rfl, rfl, k1, k2⟩
      have e1 : x_day T n e = x_num T n (x_en T n e) 0 100 2 := by unfold x_day; rw [if_pos hw]
      have hf : FrR I I2 := (FrR.rf.put (by decide)).trans (g2.toR.trans k2)
      have e8 : I1 2 8 = I 2 8 := by rw [g2.2 8 (by decide), w_put_other _ (Or.inr (by decide))]
      refine V_zret 28 dX4_takeDay_28 rfl ?_ ⟨rfl, rfl, ?_, hf⟩
      · rcases k1 with ⟨_, _, _, rfl, _⟩ | ⟨_, _, rfl, _⟩ <;> rfl
      · rw [e1]
        rcases k1 with h | ⟨a, m1, m2, m3, m4⟩
        · exact Or.inl h
        · exact Or.inr ⟨a, m1, m2, m3.trans e8, m4⟩
    · exact absurd c (by decide)
  · rw [if_neg hw]
    refine V_zN_ne 11 16 dX4_takeDay_11 (by decide) (by omega) (fun c => ?_) (fun c => ?_)
    · exact absurd rfl c
    refine V_cst 14 1 dX4_takeDay_14 rfl ?_
    refine V_zret 15 dX4_takeDay_15 rfl rfl ⟨rfl, rfl, Or.inr ⟨(0, e), ?_, rfl, w_put_other _ (Or.inr (by decide)), w_put_same _ _ _ _, hR'⟩, FrR.rf.put (by decide)⟩
    unfold x_day
    rw [if_neg hw]
theorem c_takeHour {I : w_I} {e : Nat} (hR : RT T n e I) (hT : TX T n I) (h256 : ∀ j, T j < 256) (he : e ≤ n) : FnI Ω (d + 5) mX4_takeHour [.ref (Ω.1 + 2)] (SH u v) I L (fun r S' I' L' => S' = SH u v ∧ L = L' ∧ RQ (x_hr T n e) r I I' (fun q => I' 2 7 = q.1 ∧ RT T n q.2 I') ∧ FrR I I') := by
  have hen := x_en_le (T := T) he
  refine FnR_of okX4_takeHour (Nat.le_of_ble_eq_true rfl) fun l z => ?_
  have hE : w_fit (d + 4) (w_Er l (d + 5) 0 0 Ω (w_pi (fun r S' I' L' => S' = SH u v ∧ L = L' ∧ RQ (x_hr T n e) r I I' (fun q => I' 2 7 = q.1 ∧ RT T n q.2 I') ∧ FrR I I')) z) := w_fit_r
  show V _ _ _ _ _ _ _ _ 0 [(0, _)] []
  refine V_aload_n 0 0 dX4_takeHour_0 rfl ?_
  refine V_lit 1 (w := 5) "at" (by decide) dX4_takeHour_1 ?_
  refine V_vi 3 mvX4_47 dX4_takeHour_3 ⟨_, _, _, rfl, rfl, rfl⟩ (w_fit.mono (by omega) hE) (c_isWord (d := d) (w := 5) (by decide) hR hT he) rfl (Nat.le_of_ble_eq_true rfl) ?_
  rintro _ _ _ _ ⟨rfl, rfl, rfl, rfl⟩
  by_cases hw : x_is T n e 5 = true
  · rw [if_pos hw]
    refine V_zN_ne 6 15 dX4_takeHour_6 (by decide) (by omega) (fun c => ?_) (fun c => ?_)
    · refine V_aload_n 15 0 dX4_takeHour_15 rfl ?_
      refine V_vv 16 mvX4_35 dX4_takeHour_16 ⟨_, _, _, rfl, rfl, rfl⟩ (w_fit.mono (by omega) hE) (c_advance (d := d) (T := T) (n := n) (e := x_en T n e) hR.1 hR.2.2.2.1 hen.2.2 hT) rfl (Nat.le_of_ble_eq_true rfl) ?_
      rintro _ I1 _ ⟨rfl, rfl, g1, g2⟩
      refine V_aload_n 19 0 dX4_takeHour_19 rfl ?_
      refine V_cst 20 0 dX4_takeHour_20 rfl ?_
      refine V_bip 21 11 dX4_takeHour_21 rfl ?_
      refine V_cst 23 2 dX4_takeHour_23 rfl ?_
      refine V_vi 24 mvX4_79 dX4_takeHour_24 ⟨_, _, _, rfl, rfl, rfl⟩ (w_fit.mono (by omega) hE) (c_takeNumber (d := d) (lo := 0) (hi := 12) (f := 2) g1 (hT.fr (g2.1 1 (by decide))) h256 hen.2.2 (by decide) (by decide) (Or.inl ⟨by decide, rfl⟩)) rfl (Nat.le_of_ble_eq_true rfl) ?_
      rintro r _ I2 _ ⟨rfl, rfl, k1, k2⟩
      have e1 : x_hr T n e = x_num T n (x_en T n e) 0 12 2 := by unfold x_hr; rw [if_pos hw]
      refine V_zret 27 dX4_takeHour_27 rfl ?_ ⟨rfl, rfl, ?_, g2.toR.trans k2⟩
      · rcases k1 with ⟨_, _, _, rfl, _⟩ | ⟨_, _, rfl, _⟩ <;> rfl
      · rw [e1]
        rcases k1 with h | ⟨a, m1, m2, m3, m4⟩
        · exact Or.inl h
        · exact Or.inr ⟨a, m1, m2, m3.trans (g2.2 8 (by decide)), m4⟩
    · exact absurd c (by decide)
  · rw [if_neg hw]
    refine V_zN_ne 6 15 dX4_takeHour_6 (by decide) (by omega) (fun c => ?_) (fun c => ?_)
    · exact absurd rfl c
    refine V_aload_n 9 0 dX4_takeHour_9 rfl ?_
    refine V_cst 10 1 dX4_takeHour_10 rfl ?_
    refine V_vi 11 mvX4_55 dX4_takeHour_11 ⟨_, _, _, rfl, rfl, rfl⟩ (w_fit.mono (by omega) hE) (c_refuse (d := d)) rfl (Nat.le_of_ble_eq_true rfl) ?_
    rintro _ _ I1 _ ⟨rfl, rfl, rfl, g1, g2, g3⟩
    refine V_zret 14 dX4_takeHour_14 rfl rfl ⟨rfl, rfl, Or.inl ⟨1, x_st T n e, ?_, rfl, g1, by rw [g2, hR.2.2.1]⟩, g3⟩
    unfold x_hr
    rw [if_neg hw]
theorem x_ls_err {np k b e : Nat} {q : Nat × Nat} (h : x_l1 T n np b e = .error q) : x_ls T n np (k + 1) b e = .error q := by
  simp only [x_ls, h]
theorem x_ls_ok {np k b e q1 q2 : Nat} (h : x_l1 T n np b e = .ok (q1, q2)) : x_ls T n np (k + 1) b e = if x_kd T n q2 = 2 then x_ls T n np k (b ||| 2 ^ q1) q2 else .ok (b ||| 2 ^ q1, q2) := by
  simp only [x_ls, h]
/-- the leans' loop -/
theorem tl_l (hE : w_fit (d + 1) E) (hP : s_POK P) (hnp : P 6 0 < 12) (h256 : ∀ j, T j < 256) : ∀ (k j b e : Nat) (I : w_I), j + k = 13 → b < 4096 → (1 ≤ j → x_kd T n e = 2) → e ≤ n → PRep 3 P I → RT T n e I → TX T n I →
    (∀ I' f p, x_ls T n (P 6 0) k b e = .error (f, p) → I' 2 8 = f → I' 2 9 = p → FrR I I' → ∀ ls, V mX4_takeLeans E Ω 0 0 (SH u v) I' L 120 ls [.int (nI 0)]) →
    (∀ I' f p, x_ls T n (P 6 0) k b e = .error (f, p) → I' 2 8 = f → I' 2 9 = p → FrR I I' → ∀ ls, V mX4_takeLeans E Ω 0 0 (SH u v) I' L 100 ls [.int (nI 0)]) →
    (∀ I' b' e' x, x_ls T n (P 6 0) k b e = .ok (b', e') → RT T n e' I' → I' 2 8 = I 2 8 → FrR I I' → V mX4_takeLeans E Ω 0 0 (SH u v) I' L 136 [(0, .ref (Ω.1 + 2)), (1, .int (nI b')), (2, .int (nI x))] []) →
    V mX4_takeLeans E Ω 0 0 (SH u v) I L 24 [(0, .ref (Ω.1 + 2)), (1, .int (nI b)), (2, .int (nI j))] [] := by
  have hmI : mI = 4294967295 := rfl
  intro k
  induction k with
  | zero =>
    intro j b e I hj hb hkd1 he hRP hR hT kE kE2 kO
    refine V_iload_n 24 2 dX4_takeLeans_24 rfl ?_
    refine V_bip 25 12 dX4_takeLeans_25 rfl ?_
    refine V_cN_gt 27 136 dX4_takeLeans_27 (by decide) (by omega) (by omega) (fun c => ?_) (fun c => ?_)
    · exact kO I b e j rfl hR rfl FrR.rf
    · omega
  | succ k ih =>
    intro j b e I hj hb hkd1 he hRP hR hT kE kE2 kO
    have hn := hT.1
    have hkd := x_kd_lt (T := T) (n := n) e
    have hva := x_va_lt (n := n) h256 e
    have hen := x_en_le (T := T) he
    have r6 := hRP.2.2.2.2.1
    refine V_iload_n 24 2 dX4_takeLeans_24 rfl ?_
    refine V_bip 25 12 dX4_takeLeans_25 rfl ?_
    refine V_cN_gt 27 136 dX4_takeLeans_27 (by decide) (by omega) (by omega) (fun c => ?_) (fun c => ?_)
    · omega
    -- the number
    have k101 : ∀ t, ¬ (x_kd T n e = 2 ∧ x_va T n e < P 6 0 ∧ b.testBit (x_va T n e)) → V mX4_takeLeans E Ω 0 0 (SH u v) I L 101 [(0, .ref (Ω.1 + 2)), (1, .int (nI b)), (2, .int (nI j)), (3, .int (nI t))] [] := by
      intro t h
      have e1 : x_l1 T n (P 6 0) b e = x_num T n e 0 (P 6 0) 3 := by unfold x_l1; rw [if_neg h]
      refine V_aload_n 101 0 dX4_takeLeans_101 rfl ?_
      refine V_cst 102 0 dX4_takeLeans_102 rfl ?_
      refine V_aload_n 103 0 dX4_takeLeans_103 rfl ?_
      refine V_getR 104 flX4_12 dX4_takeLeans_104 rfl ?_
      refine V_getI 107 flX4_73 dX4_takeLeans_107 rfl ?_
      rw [r6]
      refine V_cst 110 1 dX4_takeLeans_110 rfl ?_
      refine V_subM 111 dX4_takeLeans_111 (by omega) ?_
      have eq : nI (P 6 0 + 4294967296 - 1) = nI (if P 6 0 = 0 then mI else P 6 0 - 1) := by
        apply n_mod
        split <;> omega
      rw [eq]
      refine V_cst 112 3 dX4_takeLeans_112 rfl ?_
      refine V_vi 113 mvX4_79 dX4_takeLeans_113 ⟨_, _, _, rfl, rfl, rfl⟩ (w_fit.mono (by omega) hE) (c_takeNumber (d := d) (lo := 0) (hi := P 6 0) (f := 3) hR hT h256 he (by omega) (by omega) (by split; exact Or.inr ⟨by assumption, rfl⟩; exact Or.inl ⟨by omega, rfl⟩)) rfl (Nat.le_of_ble_eq_true rfl) ?_
      rintro r _ I1 _ ⟨rfl, rfl, g1, g2⟩
      rcases g1 with ⟨f, p, m1, rfl, m2, m3⟩ | ⟨⟨q1, q2⟩, m1, rfl, m2, m3, m4⟩
      · refine V_zN_ne 116 121 dX4_takeLeans_116 (by decide) (by omega) (fun c2 => ?_) (fun c2 => ?_)
        · exact absurd rfl c2
        refine V_cst 119 0 dX4_takeLeans_119 rfl ?_
        exact kE I1 f p (x_ls_err (e1.trans m1)) m2 m3 g2 _
      · obtain ⟨o1, o2, o3, o4⟩ := x_num_ok m1
        have o2 : q1 < P 6 0 := o2
        have o3 : q2 = x_en T n e := o3
        have m3 : I1 2 7 = q1 := m3
        have m4 : RT T n q2 I1 := m4
        refine V_zN_ne 116 121 dX4_takeLeans_116 (by decide) (by omega) (fun c2 => ?_) (fun c2 => ?_)
        · refine V_iload_n 121 1 dX4_takeLeans_121 rfl ?_
          refine V_cst 122 1 dX4_takeLeans_122 rfl ?_
          refine V_aload_n 123 0 dX4_takeLeans_123 rfl ?_
          refine V_getI 124 flX4_83 dX4_takeLeans_124 rfl ?_
          rw [m3]
          refine V_shl 127 dX4_takeLeans_127 (by omega) ?_
          refine V_or 128 dX4_takeLeans_128 ?_
          refine V_istore_n 129 [(0, _), (1, _), (2, _), (3, _)] dX4_takeLeans_129 (by decide) rfl ?_
          refine V_inc 130 2 _ [(0, _), (1, _), (2, _), (3, _)] dX4_takeLeans_130 rfl rfl rfl (by decide) rfl ?_
          refine V_goto 133 24 dX4_takeLeans_133 (by decide) ?_
          refine V_sub [(0, _), (1, _), (2, _)] [0, 1, 2] rfl ?_
          rw [Nat.one_mul]
          have e3 : x_ls T n (P 6 0) (k + 1) b e = if x_kd T n q2 = 2 then x_ls T n (P 6 0) k (b ||| 2 ^ q1) q2 else .ok (b ||| 2 ^ q1, q2) := x_ls_ok (e1.trans m1)
          have hkd2 := x_kd_lt (T := T) (n := n) q2
          by_cases hk2 : x_kd T n q2 = 2
          · rw [if_pos hk2] at e3
            exact ih (j + 1) (b ||| 2 ^ q1) q2 I1 (by omega) (or12 hb (p12 (by omega))) (fun _ => hk2) (by omega) (g2.P hRP) m4 (hT.fr (g2.1 1 (by decide))) (fun I' f p h1 h2 h3 h4 => kE I' f p (e3.trans h1) h2 h3 (g2.trans h4)) (fun I' f p h1 h2 h3 h4 => kE2 I' f p (e3.trans h1) h2 h3 (g2.trans h4)) (fun I' b' e' x h1 h2 h3 h4 => kO I' b' e' x (e3.trans h1) h2 (h3.trans m2) (g2.trans h4))
          · rw [if_neg hk2] at e3
            refine V_iload_n 24 2 dX4_takeLeans_24 rfl ?_
            refine V_bip 25 12 dX4_takeLeans_25 rfl ?_
            refine V_cN_gt 27 136 dX4_takeLeans_27 (by decide) (by omega) (by omega) (fun c3 => ?_) (fun c3 => ?_)
            · exact kO I1 _ _ _ e3 m4 m2 g2
            refine V_iload_n 30 2 dX4_takeLeans_30 rfl ?_
            refine V_zN_le 31 45 dX4_takeLeans_31 (by decide) (by omega) (fun c4 => ?_) (fun c4 => ?_)
            · omega
            refine V_aload_n 34 0 dX4_takeLeans_34 rfl ?_
            refine V_getI 35 flX4_38 dX4_takeLeans_35 rfl ?_
            refine V_cst 38 2 dX4_takeLeans_38 rfl ?_
            rw [m4.2.1]
            refine V_cN_eq 39 45 dX4_takeLeans_39 (by decide) (by omega) (by omega) (fun c5 => ?_) (fun c5 => ?_)
            · exact absurd c5 hk2
            refine V_goto 42 136 dX4_takeLeans_42 (by decide) ?_
            exact kO I1 _ _ _ e3 m4 m2 g2
        · exact absurd c2 (by decide)
    have k81 : ∀ t, t < 2 → (t ≠ 0 ↔ (x_kd T n e = 2 ∧ x_va T n e < P 6 0)) → V mX4_takeLeans E Ω 0 0 (SH u v) I L 79 [(0, .ref (Ω.1 + 2)), (1, .int (nI b)), (2, .int (nI j))] [.int (nI t)] := by
      intro t ht2 ht
      refine V_istore_n 79 [(0, _), (1, _), (2, _), (3, _)] dX4_takeLeans_79 (by decide) rfl ?_
      refine V_iload_n 80 3 dX4_takeLeans_80 rfl ?_
      refine V_zN_eq 81 101 dX4_takeLeans_81 (by decide) (by omega) (fun c2 => ?_) (fun c2 => ?_)
      · exact k101 t (fun h => (ht.mpr ⟨h.1, h.2.1⟩) c2)
      have ht3 := ht.mp c2
      refine V_iload_n 84 1 dX4_takeLeans_84 rfl ?_
      refine V_aload_n 85 0 dX4_takeLeans_85 rfl ?_
      refine V_getI 86 flX4_117 dX4_takeLeans_86 rfl ?_
      rw [hR.2.2.2.2]
      refine V_shr 89 dX4_takeLeans_89 (by omega) (by omega) ?_
      refine V_cst 90 1 dX4_takeLeans_90 rfl ?_
      refine V_and 91 dX4_takeLeans_91 ?_
      refine V_zN_eq 92 101 dX4_takeLeans_92 (by decide) (and_lt2 (by decide)) (fun c3 => ?_) (fun c3 => ?_)
      · refine k101 t (fun h => ?_)
        exact absurd c3 ((bitN_iff _ _).mpr h.2.2)
      refine V_aload_n 95 0 dX4_takeLeans_95 rfl ?_
      refine V_cst 96 4 dX4_takeLeans_96 rfl ?_
      refine V_vi 97 mvX4_55 dX4_takeLeans_97 ⟨_, _, _, rfl, rfl, rfl⟩ (w_fit.mono (by omega) hE) (c_refuse (d := d)) rfl (Nat.le_of_ble_eq_true rfl) ?_
      rintro _ _ I1 _ ⟨rfl, rfl, rfl, g1, g2, g3⟩
      refine kE2 I1 4 (x_st T n e) ?_ g1 (by rw [g2, hR.2.2.1]) g3 _
      refine x_ls_err ?_
      unfold x_l1
      rw [if_pos ⟨ht3.1, ht3.2, (bitN_iff _ _).mp c3⟩]
    have k45 : V mX4_takeLeans E Ω 0 0 (SH u v) I L 45 [(0, .ref (Ω.1 + 2)), (1, .int (nI b)), (2, .int (nI j))] [] := by
      refine V_aload_n 45 0 dX4_takeLeans_45 rfl ?_
      refine V_getI 46 flX4_38 dX4_takeLeans_46 rfl ?_
      refine V_cst 49 2 dX4_takeLeans_49 rfl ?_
      rw [hR.2.1]
      refine V_cN_ne 50 78 dX4_takeLeans_50 (by decide) (by omega) (by omega) (fun c1 => ?_) (fun c1 => ?_)
      · refine V_cst 78 0 dX4_takeLeans_78 rfl ?_
        exact k81 0 (by decide) ⟨fun h => absurd rfl h, fun h => absurd h.1 c1⟩
      refine V_aload_n 53 0 dX4_takeLeans_53 rfl ?_
      refine V_getI 54 flX4_117 dX4_takeLeans_54 rfl ?_
      rw [hR.2.2.2.2]
      refine V_zN_lt 57 78 dX4_takeLeans_57 (by decide) (by omega) (fun c2 => ?_) (fun c2 => ?_)
      · refine V_cst 78 0 dX4_takeLeans_78 rfl ?_
        exact k81 0 (by decide) ⟨fun h => absurd rfl h, fun h => by omega⟩
      · have hv : x_va T n e < 1000000 := by omega
        refine V_aload_n 60 0 dX4_takeLeans_60 rfl ?_
        refine V_getI 61 flX4_117 dX4_takeLeans_61 rfl ?_
        refine V_aload_n 64 0 dX4_takeLeans_64 rfl ?_
        refine V_getR 65 flX4_12 dX4_takeLeans_65 rfl ?_
        refine V_getI 68 flX4_73 dX4_takeLeans_68 rfl ?_
        rw [hR.2.2.2.2, r6]
        refine V_cN_ge 71 78 dX4_takeLeans_71 (by decide) (by omega) (by omega) (fun c3 => ?_) (fun c3 => ?_)
        · refine V_cst 78 0 dX4_takeLeans_78 rfl ?_
          exact k81 0 (by decide) ⟨fun h => absurd rfl h, fun h => by omega⟩
        · refine V_cst 74 1 dX4_takeLeans_74 rfl ?_
          refine V_goto 75 79 dX4_takeLeans_75 (by decide) ?_
          exact k81 1 (by decide) ⟨fun _ => ⟨c1, c3⟩, fun _ => by decide⟩
    refine V_iload_n 30 2 dX4_takeLeans_30 rfl ?_
    refine V_zN_le 31 45 dX4_takeLeans_31 (by decide) (by omega) (fun c0 => ?_) (fun c0 => ?_)
    · exact k45
    refine V_aload_n 34 0 dX4_takeLeans_34 rfl ?_
    refine V_getI 35 flX4_38 dX4_takeLeans_35 rfl ?_
    refine V_cst 38 2 dX4_takeLeans_38 rfl ?_
    rw [hR.2.1]
    refine V_cN_eq 39 45 dX4_takeLeans_39 (by decide) (by omega) (by omega) (fun c1 => ?_) (fun c1 => ?_)
    · exact k45
    · exact absurd (hkd1 (by omega)) c1
theorem c_takeLeans {I : w_I} {e : Nat} (hP : s_POK P) (hnp : P 6 0 < 12) (hRP : PRep 3 P I) (hR : RT T n e I) (hT : TX T n I) (h256 : ∀ j, T j < 256) (he : e ≤ n) : FnI Ω (d + 5) mX4_takeLeans [.ref (Ω.1 + 2)] (SH u v) I L (fun r S' I' L' => S' = SH u v ∧ L = L' ∧ RQ (x_on T n (P 6 0) e) r I I' (fun q => I' 2 7 = q.1 ∧ RT T n q.2 I') ∧ FrR I I') := by
  have hen := x_en_le (T := T) he
  have hR' : RT T n e (w_put I 2 7 0) := hR.put (by decide)
  have hT' : TX T n (w_put I 2 7 0) := hT.fr (w_put_ne _ _ (by decide))
  refine FnR_of okX4_takeLeans (Nat.le_of_ble_eq_true rfl) fun l z => ?_
  have hE : w_fit (d + 4) (w_Er l (d + 5) 0 0 Ω (w_pi (fun r S' I' L' => S' = SH u v ∧ L = L' ∧ RQ (x_on T n (P 6 0) e) r I I' (fun q => I' 2 7 = q.1 ∧ RT T n q.2 I') ∧ FrR I I')) z) := w_fit_r
  show V _ _ _ _ _ _ _ _ 0 [(0, _)] []
  refine V_aload_n 0 0 dX4_takeLeans_0 rfl ?_
  refine V_cst 1 0 dX4_takeLeans_1 rfl ?_
  refine V_putI 2 flX4_83 ft_4_7 dX4_takeLeans_2 rfl ?_
  refine V_aload_n 5 0 dX4_takeLeans_5 rfl ?_
  refine V_lit 6 (w := 6) "on" (by decide) dX4_takeLeans_6 ?_
  refine V_vi 8 mvX4_47 dX4_takeLeans_8 ⟨_, _, _, rfl, rfl, rfl⟩ (w_fit.mono (by omega) hE) (c_isWord (d := d) (w := 6) (by decide) hR' hT' he) rfl (Nat.le_of_ble_eq_true rfl) ?_
  rintro _ _ _ _ ⟨rfl, rfl, rfl, rfl⟩
  by_cases hw : x_is T n e 6 = true
  · rw [if_pos hw]
    have e1 : x_on T n (P 6 0) e = x_ls T n (P 6 0) 13 0 (x_en T n e) := by unfold x_on; rw [if_pos hw]
    refine V_zN_ne 11 16 dX4_takeLeans_11 (by decide) (by omega) (fun c => ?_) (fun c => ?_)
    · refine V_aload_n 16 0 dX4_takeLeans_16 rfl ?_
      refine V_vv 17 mvX4_35 dX4_takeLeans_17 ⟨_, _, _, rfl, rfl, rfl⟩ (w_fit.mono (by omega) hE) (c_advance (d := d) (T := T) (n := n) (e := x_en T n e) hR'.1 hR'.2.2.2.1 hen.2.2 hT') rfl (Nat.le_of_ble_eq_true rfl) ?_
      rintro _ I1 _ ⟨rfl, rfl, g1, g2⟩
      have hf : FrR I I1 := (FrR.rf.put (by decide)).trans g2.toR
      have e8 : I1 2 8 = I 2 8 := by rw [g2.2 8 (by decide), w_put_other _ (Or.inr (by decide))]
      refine V_cst 20 0 dX4_takeLeans_20 rfl ?_
      refine V_istore_n 21 [(0, _), (1, _)] dX4_takeLeans_21 (by decide) rfl ?_
      refine V_cst 22 0 dX4_takeLeans_22 rfl ?_
      refine V_istore_n 23 [(0, _), (1, _), (2, _)] dX4_takeLeans_23 (by decide) rfl ?_
      refine tl_l (d := d) (w_fit.mono (by omega) hE) hP hnp h256 13 0 0 (x_en T n e) I1 (by decide) (by decide) (fun h => absurd h (by decide)) hen.2.2 (hf.P hRP) g1 (hT.fr (hf.1 1 (by decide))) (fun I' f p h1 h2 h3 h4 ls => ?_) (fun I' f p h1 h2 h3 h4 ls => ?_) (fun I' b' e' x h1 h2 h3 h4 => ?_)
      · exact V_zret 120 dX4_takeLeans_120 rfl rfl ⟨rfl, rfl, Or.inl ⟨f, p, e1.trans h1, rfl, h2, h3⟩, hf.trans h4⟩
      · exact V_zret 100 dX4_takeLeans_100 rfl rfl ⟨rfl, rfl, Or.inl ⟨f, p, e1.trans h1, rfl, h2, h3⟩, hf.trans h4⟩
      · refine V_aload_n 136 0 dX4_takeLeans_136 rfl ?_
        refine V_iload_n 137 1 dX4_takeLeans_137 rfl ?_
        refine V_putI 138 flX4_83 ft_4_7 dX4_takeLeans_138 rfl ?_
        refine V_cst 141 1 dX4_takeLeans_141 rfl ?_
        refine V_zret 142 dX4_takeLeans_142 rfl rfl ⟨rfl, rfl, Or.inr ⟨(b', e'), e1.trans h1, rfl, ?_, w_put_same _ _ _ _, h2.put (by decide)⟩, (hf.trans h4).put (by decide)⟩
        rw [w_put_other _ (Or.inr (by decide)), h3, e8]
    · exact absurd c (by decide)
  · rw [if_neg hw]
    refine V_zN_ne 11 16 dX4_takeLeans_11 (by decide) (by omega) (fun c => ?_) (fun c => ?_)
    · exact absurd rfl c
    refine V_cst 14 1 dX4_takeLeans_14 rfl ?_
    refine V_zret 15 dX4_takeLeans_15 rfl rfl ⟨rfl, rfl, Or.inr ⟨(0, e), ?_, rfl, w_put_other _ (Or.inr (by decide)), w_put_same _ _ _ _, hR'⟩, FrR.rf.put (by decide)⟩
    unfold x_on
    rw [if_neg hw]
end
