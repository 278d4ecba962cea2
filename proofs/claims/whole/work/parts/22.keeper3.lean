section
variable {Ω : w_O} {d u v : Nat} {I : w_I} {E : w_E} {P : w_R} {W : Nat → Nat}
/-! Arrays.fill of longs -/
theorem fl_l {S : List w_SC} {a nn x : Nat} (hS : S[a]? = some (.inl (3, nn))) (hnn : nn < 2 ^ 31) : ∀ (n j : Nat) (L : w_L), j + n = nn → (∀ i, i < j → L a i = x) →
    (∀ L', Fr a (a + 1) L L' → (∀ i, i < nn → L' a i = x) → V mJ7_fill_d0a16 E Ω 0 0 S I L' 22 [(0, .ref (Ω.1 + a)), (1, .long (lN x)), (3, .int (nI nn)), (4, .int (nI nn))] []) →
    V mJ7_fill_d0a16 E Ω 0 0 S I L 6 [(0, .ref (Ω.1 + a)), (1, .long (lN x)), (3, .int (nI j)), (4, .int (nI nn))] [] := by
  intro n
  induction n with
  | zero =>
    intro j L hj hl hk
    have e : j = nn := by omega
    subst e
    refine V_iload_n 6 2 dJ7_fill_d0a16_6 rfl ?_
    refine V_iload 7 3 dJ7_fill_d0a16_7 rfl ?_
    refine V_cN_ge 9 22 dJ7_fill_d0a16_9 (by decide) (by omega) (by omega) (fun c => ?_) (fun c => ?_)
    · exact hk L Fr.rf hl
    · omega
  | succ n ih =>
    intro j L hj hl hk
    refine V_iload_n 6 2 dJ7_fill_d0a16_6 rfl ?_
    refine V_iload 7 3 dJ7_fill_d0a16_7 rfl ?_
    refine V_cN_ge 9 22 dJ7_fill_d0a16_9 (by decide) (by omega) (by omega) (fun c => ?_) (fun c => ?_)
    · omega
    refine V_aload_n 12 0 dJ7_fill_d0a16_12 rfl ?_
    refine V_iload_n 13 2 dJ7_fill_d0a16_13 rfl ?_
    refine V_lload_n 14 1 dJ7_fill_d0a16_14 rfl ?_
    refine V_last 15 dJ7_fill_d0a16_15 hS (by omega) (by omega) ?_
    refine V_inc 16 2 _ [(0, _), (1, _), (3, _), (4, _)] dJ7_fill_d0a16_16 rfl rfl rfl (by decide) rfl ?_
    refine V_goto 19 6 dJ7_fill_d0a16_19 (by decide) ?_
    refine ih (j + 1) _ (by omega) (fun i hi => ?_) (fun L' h1 h2 => hk L' ((Fr.rf.put (by omega) (by omega)).trans h1) h2)
    by_cases e : i = j
    · rw [e, w_put_same]
    · rw [w_put_other _ (Or.inr e)]; exact hl i (by omega)
theorem c_fillL {S : List w_SC} {L : w_L} {a nn x : Nat} (hS : S[a]? = some (.inl (3, nn))) (hnn : nn < 2 ^ 31) : FnV Ω d mJ7_fill_d0a16 [.ref (Ω.1 + a), .long (lN x)] S I L (fun S' I' L' => S' = S ∧ I = I' ∧ (∀ i, i < nn → L' a i = x) ∧ Fr a (a + 1) L L') := by
  refine FnR_of okJ7_fill_d0a16 (Nat.le_of_ble_eq_true rfl) fun l z => ?_
  show V _ _ _ _ _ _ _ _ 0 [(0, _), (1, _)] []
  refine V_cst 0 0 dJ7_fill_d0a16_0 rfl ?_
  refine V_istore_n 1 [(0, _), (1, _), (3, _)] dJ7_fill_d0a16_1 (by decide) rfl ?_
  refine V_aload_n 2 0 dJ7_fill_d0a16_2 rfl ?_
  refine V_alen 3 dJ7_fill_d0a16_3 hS (by decide) ?_
  refine V_istore 4 [(0, _), (1, _), (3, _), (4, _)] dJ7_fill_d0a16_4 (by decide) rfl ?_
  refine fl_l hS hnn nn 0 L (by omega) (fun i hi => absurd hi (Nat.not_lt_zero _)) (fun L' h1 h2 => ?_)
  exact V_ret 22 dJ7_fill_d0a16_22 rfl ⟨rfl, rfl, h2, h1⟩
/-! sumDays -/
def DRep (P : w_R) (W : Nat → Nat) (L : w_L) : Prop := ∀ q i, q < P 0 0 → i < P 0 0 → L 62 (6 * q + i) = k_ds P W q i
/-- which of the two rows is which -/
def UV (u v : Nat) : Prop := (u = 63 ∧ v = 64) ∨ (u = 64 ∧ v = 63)
theorem UV.s {u v : Nat} (h : UV u v) : UV v u := by unfold UV at *; omega
theorem UV.ne {u v : Nat} (h : UV u v) : u ≠ v := by unfold UV at h; omega
theorem UV.b {u v : Nat} (h : UV u v) : 63 ≤ u ∧ u < 65 ∧ 63 ≤ v ∧ v < 65 := by unfold UV at h; omega
theorem UV.su {u v : Nat} (h : UV u v) : (SH u v)[u]? = some (.inl (3, 6)) := by rcases h with ⟨rfl, rfl⟩ | ⟨rfl, rfl⟩ <;> rfl
theorem UV.sv {u v : Nat} (h : UV u v) : (SH u v)[v]? = some (.inl (3, 6)) := by rcases h with ⟨rfl, rfl⟩ | ⟨rfl, rfl⟩ <;> rfl
theorem sd_in {n0 q days dd : Nat} (hE : w_fit d E) (hP : s_POK P) (hR : PRep 15 P I) (hu : UV u v) (hq : q < P 0 0) : ∀ (n j : Nat) (L : w_L), j + n = P 0 0 → DRep P W L → (∀ i, i < P 0 0 → L u i = k_some P W n0 i) →
    V mX2_sumDays E Ω 0 0 (SH u v) I L 81 [(0, .ref (Ω.1 + 58)), (1, .int (nI days)), (2, .int (nI dd)), (3, .int (nI q)), (4, .long (lN (k_some P W (n0 + 1) q))), (6, .int (nI (P 0 0)))] [] →
    V mX2_sumDays E Ω 0 0 (SH u v) I L 36 [(0, .ref (Ω.1 + 58)), (1, .int (nI days)), (2, .int (nI dd)), (3, .int (nI q)), (4, .long (lN (k_min (fun t => k_ds P W q t + k_some P W n0 t) j))), (6, .int (nI j))] [] := by
  have h6 := hP.1.2
  have hFAR : FAR = 1125899906842624 := rfl
  intro n
  induction n with
  | zero =>
    intro j L hj hD hu1 hk
    have e : j = P 0 0 := by omega
    subst e
    refine V_iload 36 5 dX2_sumDays_36 rfl ?_
    refine V_aload_n 38 0 dX2_sumDays_38 rfl ?_
    refine V_getR 39 flX2_30 dX2_sumDays_39 rfl ?_
    refine V_getI 42 flX2_34 dX2_sumDays_42 rfl ?_
    rw [hR.1]
    refine V_cN_ge 45 81 dX2_sumDays_45 (by decide) (by omega) (by omega) (fun c => ?_) (fun c => ?_)
    · exact hk
    · omega
  | succ n ih =>
    intro j L hj hD hu1 hk
    have b1 := k_min_le (fun t => k_ds P W q t + k_some P W n0 t) j
    have b2 := k_ds_le P W q j
    have b3 := k_some_le P W n0 j
    refine V_iload 36 5 dX2_sumDays_36 rfl ?_
    refine V_aload_n 38 0 dX2_sumDays_38 rfl ?_
    refine V_getR 39 flX2_30 dX2_sumDays_39 rfl ?_
    refine V_getI 42 flX2_34 dX2_sumDays_42 rfl ?_
    rw [hR.1]
    refine V_cN_ge 45 81 dX2_sumDays_45 (by decide) (by omega) (by omega) (fun c => ?_) (fun c => ?_)
    · omega
    refine V_lload 48 4 dX2_sumDays_48 rfl ?_
    refine V_aload_n 50 0 dX2_sumDays_50 rfl ?_
    refine V_getR 51 flX2_21 dX2_sumDays_51 rfl ?_
    refine V_iload_n 54 3 dX2_sumDays_54 rfl ?_
    refine V_bip 55 6 dX2_sumDays_55 rfl ?_
    refine V_mul 57 dX2_sumDays_57 ?_
    refine V_iload 58 5 dX2_sumDays_58 rfl ?_
    refine V_add 60 dX2_sumDays_60 ?_
    refine V_lald 61 dX2_sumDays_61 rfl (by omega) (by omega) ?_
    rw [show q * 6 + j = 6 * q + j by omega, hD q j hq (by omega)]
    refine V_aload_n 62 0 dX2_sumDays_62 rfl ?_
    refine V_getR 63 flX2_24 dX2_sumDays_63 rfl ?_
    refine V_iload 66 5 dX2_sumDays_66 rfl ?_
    refine V_lald 68 dX2_sumDays_68 hu.su (by omega) (by omega) ?_
    rw [hu1 j (by omega)]
    refine V_addl 69 dX2_sumDays_69 ?_
    refine V_minl 70 (by omega) (by omega) mmX2_60 dX2_sumDays_70 (w_fit.mono (by omega) hE) (Nat.le_of_ble_eq_true rfl) ?_
    rw [← k_min_succ (fun t => k_ds P W q t + k_some P W n0 t)]
    refine V_lstore 73 [(0, _), (1, _), (2, _), (3, _), (4, _), (6, _)] dX2_sumDays_73 (by decide) rfl ?_
    refine V_inc 75 5 _ [(0, _), (1, _), (2, _), (3, _), (4, _), (6, _)] dX2_sumDays_75 rfl rfl rfl (by decide) rfl ?_
    refine V_goto 78 36 dX2_sumDays_78 (by decide) ?_
    exact ih (j + 1) L (by omega) hD hu1 hk
theorem sd_mid {n0 days dd : Nat} (hE : w_fit d E) (hP : s_POK P) (hR : PRep 15 P I) (hu : UV u v) : ∀ (n q : Nat) (L : w_L), q + n = P 0 0 → DRep P W L → (∀ i, i < P 0 0 → L u i = k_some P W n0 i) → (∀ i, i < q → L v i = k_some P W (n0 + 1) i) →
    (∀ L', Fr v (v + 1) L L' → (∀ i, i < P 0 0 → L' v i = k_some P W (n0 + 1) i) → V mX2_sumDays E Ω 0 0 (SH u v) I L' 95 [(0, .ref (Ω.1 + 58)), (1, .int (nI days)), (2, .int (nI dd))] []) →
    V mX2_sumDays E Ω 0 0 (SH u v) I L 17 [(0, .ref (Ω.1 + 58)), (1, .int (nI days)), (2, .int (nI dd)), (3, .int (nI q))] [] := by
  have h6 := hP.1.2
  have hb := hu.b
  have hne := hu.ne
  intro n
  induction n with
  | zero =>
    intro q L hq hD hu1 hv1 hk
    have e : q = P 0 0 := by omega
    subst e
    refine V_iload_n 17 3 dX2_sumDays_17 rfl ?_
    refine V_aload_n 18 0 dX2_sumDays_18 rfl ?_
    refine V_getR 19 flX2_30 dX2_sumDays_19 rfl ?_
    refine V_getI 22 flX2_34 dX2_sumDays_22 rfl ?_
    rw [hR.1]
    refine V_cN_ge 25 95 dX2_sumDays_25 (by decide) (by omega) (by omega) (fun c => ?_) (fun c => ?_)
    · refine V_sub [(0, _), (1, _), (2, _)] [0, 1, 2] rfl ?_
      exact hk L Fr.rf hv1
    · omega
  | succ n ih =>
    intro q L hq hD hu1 hv1 hk
    have b1 := k_some_le P W (n0 + 1) q
    refine V_iload_n 17 3 dX2_sumDays_17 rfl ?_
    refine V_aload_n 18 0 dX2_sumDays_18 rfl ?_
    refine V_getR 19 flX2_30 dX2_sumDays_19 rfl ?_
    refine V_getI 22 flX2_34 dX2_sumDays_22 rfl ?_
    rw [hR.1]
    refine V_cN_ge 25 95 dX2_sumDays_25 (by decide) (by omega) (by omega) (fun c => ?_) (fun c => ?_)
    · omega
    refine V_ldc2N 28 1125899906842624 klX2_44 dX2_sumDays_28 rfl ?_
    refine V_lstore 31 [(0, _), (1, _), (2, _), (3, _), (4, _)] dX2_sumDays_31 (by decide) rfl ?_
    refine V_cst 33 0 dX2_sumDays_33 rfl ?_
    refine V_istore 34 [(0, _), (1, _), (2, _), (3, _), (4, _), (6, _)] dX2_sumDays_34 (by decide) rfl ?_
    refine sd_in (n0 := n0) (W := W) hE hP hR hu (by omega) (P 0 0) 0 L (by omega) hD hu1 ?_
    refine V_aload_n 81 0 dX2_sumDays_81 rfl ?_
    refine V_getR 82 flX2_27 dX2_sumDays_82 rfl ?_
    refine V_iload_n 85 3 dX2_sumDays_85 rfl ?_
    refine V_lload 86 4 dX2_sumDays_86 rfl ?_
    refine V_last 88 dX2_sumDays_88 hu.sv (by omega) (by omega) ?_
    refine V_inc 89 3 _ [(0, _), (1, _), (2, _), (3, _), (4, _), (6, _)] dX2_sumDays_89 rfl rfl rfl (by decide) rfl ?_
    refine V_goto 92 17 dX2_sumDays_92 (by decide) ?_
    refine V_sub [(0, _), (1, _), (2, _), (3, _)] [0, 1, 2, 3] rfl ?_
    have hf : Fr v (v + 1) L (w_put L v q (k_some P W (n0 + 1) q)) := Fr.rf.put (by omega) (by omega)
    refine ih (q + 1) _ (by omega) ?_ ?_ ?_ (fun L' h1 h2 => hk L' (hf.trans h1) h2)
    · intro a b ha hb2; rw [hf 62 (by omega)]; exact hD a b ha hb2
    · intro i hi; rw [hf u (by omega)]; exact hu1 i hi
    · intro i hi
      by_cases e : i = q
      · rw [e, w_put_same]
      · rw [w_put_other _ (Or.inr e)]; exact hv1 i (by omega)
theorem sd_out {days : Nat} (hE : w_fit d E) (hP : s_POK P) (hR : PRep 15 P I) (hdays : days < 2000) : ∀ (n j u v : Nat) (L : w_L), UV u v → j + n = days → DRep P W L → (∀ i, i < P 0 0 → L u i = k_some P W j i) →
    (∀ u' v' L', UV u' v' → Fr 63 65 L L' → (∀ i, i < P 0 0 → L' u' i = k_some P W days i) → V mX2_sumDays E Ω 0 0 (SH u' v') I L' 119 [(0, .ref (Ω.1 + 58)), (1, .int (nI days)), (2, .int (nI days))] []) →
    V mX2_sumDays E Ω 0 0 (SH u v) I L 10 [(0, .ref (Ω.1 + 58)), (1, .int (nI days)), (2, .int (nI j))] [] := by
  intro n
  induction n with
  | zero =>
    intro j u v L hu hj hD hl hk
    have e : j = days := by omega
    subst e
    refine V_iload_n 10 2 dX2_sumDays_10 rfl ?_
    refine V_iload_n 11 1 dX2_sumDays_11 rfl ?_
    refine V_cN_ge 12 119 dX2_sumDays_12 (by decide) (by omega) (by omega) (fun c => ?_) (fun c => ?_)
    · exact hk u v L hu Fr.rf hl
    · omega
  | succ n ih =>
    intro j u v L hu hj hD hl hk
    have hb := hu.b
    refine V_iload_n 10 2 dX2_sumDays_10 rfl ?_
    refine V_iload_n 11 1 dX2_sumDays_11 rfl ?_
    refine V_cN_ge 12 119 dX2_sumDays_12 (by decide) (by omega) (by omega) (fun c => ?_) (fun c => ?_)
    · omega
    refine V_cst 15 0 dX2_sumDays_15 rfl ?_
    refine V_istore_n 16 [(0, _), (1, _), (2, _), (3, _)] dX2_sumDays_16 (by decide) rfl ?_
    refine sd_mid (n0 := j) (W := W) hE hP hR hu (P 0 0) 0 L (by omega) hD hl (fun i hi => absurd hi (Nat.not_lt_zero _)) (fun L' h1 h2 => ?_)
    refine V_aload_n 95 0 dX2_sumDays_95 rfl ?_
    refine V_getR 96 flX2_24 dX2_sumDays_96 rfl ?_
    refine V_astore_n 99 [(0, _), (1, _), (2, _), (3, _)] dX2_sumDays_99 (by decide) rfl ?_
    refine V_aload_n 100 0 dX2_sumDays_100 rfl ?_
    refine V_aload_n 101 0 dX2_sumDays_101 rfl ?_
    refine V_getR 102 flX2_27 dX2_sumDays_102 rfl ?_
    refine V_putR 105 (SH v v) flX2_24 ft_2_5 dX2_sumDays_105 rfl (Nat.le_of_ble_eq_true rfl) (fun h => by cases h) (fun _ => ⟨rfl, rfl⟩) rfl ?_
    refine V_aload_n 108 0 dX2_sumDays_108 rfl ?_
    refine V_aload_n 109 3 dX2_sumDays_109 rfl ?_
    refine V_putR 110 (SH v u) flX2_27 ft_2_6 dX2_sumDays_110 rfl (Nat.le_of_ble_eq_true rfl) (fun h => by cases h) (fun _ => ⟨rfl, rfl⟩) rfl ?_
    refine V_inc 113 2 _ [(0, _), (1, _), (2, _), (3, _)] dX2_sumDays_113 rfl rfl rfl (by decide) rfl ?_
    refine V_goto 116 10 dX2_sumDays_116 (by decide) ?_
    refine V_sub [(0, _), (1, _), (2, _)] [0, 1, 2] rfl ?_
    have hf : Fr 63 65 L L' := h1.wide (by omega) (by omega)
    refine ih (j + 1) v u L' hu.s (by omega) ?_ h2 (fun u' v' L'' g0 g1 g2 => hk u' v' L'' g0 (hf.trans g1) g2)
    intro a b ha hb2
    rw [hf 62 (by omega)]
    exact hD a b ha hb2
theorem c_sumDays {L : w_L} {days : Nat} (hP : s_POK P) (hR : PRep 15 P I) (hu : UV u v) (hdays : days < 2000) (hD : DRep P W L) : FnV Ω (d + 1) mX2_sumDays [.ref (Ω.1 + 58), .int (nI days)] (SH u v) I L (fun S' I' L' => ∃ u' v', S' = SH u' v' ∧ UV u' v' ∧ I = I' ∧ (∀ i, i < P 0 0 → L' u' i = k_some P W days i) ∧ Fr 63 65 L L') := by
  have hb := hu.b
  have h6 := hP.1.2
  refine FnR_of okX2_sumDays (Nat.le_of_ble_eq_true rfl) fun l z => ?_
  have hE : w_fit d (w_Er l (d + 1) 0 0 Ω (w_pv (fun S' I' L' => ∃ u' v', S' = SH u' v' ∧ UV u' v' ∧ I = I' ∧ (∀ i, i < P 0 0 → L' u' i = k_some P W days i) ∧ Fr 63 65 L L')) z) := w_fit_r
  show V _ _ _ _ _ _ _ _ 0 [(0, _), (1, _)] []
  refine V_aload_n 0 0 dX2_sumDays_0 rfl ?_
  refine V_getR 1 flX2_24 dX2_sumDays_1 rfl ?_
  refine V_lcst 4 0 dX2_sumDays_4 rfl ?_
  refine V_sv 5 msX2_76 dX2_sumDays_5 (w_fit.mono (by omega) hE) (c_fillL (d := d) (nn := 6) hu.su (by decide)) rfl (Nat.le_of_ble_eq_true rfl) ?_
  rintro _ _ L1 ⟨rfl, rfl, h1, h2⟩
  refine V_cst 8 0 dX2_sumDays_8 rfl ?_
  refine V_istore_n 9 [(0, _), (1, _), (2, _)] dX2_sumDays_9 (by decide) rfl ?_
  have hf : Fr 63 65 L L1 := h2.wide (by omega) (by omega)
  refine sd_out (W := W) hE hP hR hdays days 0 u v L1 hu (by omega) (fun a b ha hb2 => by rw [hf 62 (by omega)]; exact hD a b ha hb2) (fun i hi => h1 i (by omega)) (fun u' v' L' g0 g1 g2 => ?_)
  exact V_ret 119 dX2_sumDays_119 rfl ⟨u', v', rfl, g0, rfl, g2, hf.trans g1⟩
/-! leastSum -/
theorem ls_l {K N days : Nat} (hE : w_fit d E) (hP : s_POK P) (hR : PRep 15 P I) (hu : UV u v) : ∀ (n j : Nat) (L : w_L), j + n = P 0 0 → (∀ i, i < P 0 0 → L 61 i = k_heard P W K i) → (∀ i, i < P 0 0 → L u i = k_some P W N i) → L 58 7 = k_min (fun p => k_heard P W K p + k_some P W N p) j →
    (∀ L', Fr 58 59 L L' → L' 58 7 = k_best P W K N → V mX2_leastSum E Ω 0 0 (SH u v) I L' 66 [(0, .ref (Ω.1 + 58)), (1, .int (nI K)), (2, .int (nI days)), (3, .int (nI (P 0 0)))] []) →
    V mX2_leastSum E Ω 0 0 (SH u v) I L 25 [(0, .ref (Ω.1 + 58)), (1, .int (nI K)), (2, .int (nI days)), (3, .int (nI j))] [] := by
  have h6 := hP.1.2
  have hb := hu.b
  have hFAR : FAR = 1125899906842624 := rfl
  intro n
  induction n with
  | zero =>
    intro j L hj h61 hl hbst hk
    have e : j = P 0 0 := by omega
    subst e
    refine V_iload_n 25 3 dX2_leastSum_25 rfl ?_
    refine V_aload_n 26 0 dX2_leastSum_26 rfl ?_
    refine V_getR 27 flX2_30 dX2_leastSum_27 rfl ?_
    refine V_getI 30 flX2_34 dX2_leastSum_30 rfl ?_
    rw [hR.1]
    refine V_cN_ge 33 66 dX2_leastSum_33 (by decide) (by omega) (by omega) (fun c => ?_) (fun c => ?_)
    · exact hk L Fr.rf hbst
    · omega
  | succ n ih =>
    intro j L hj h61 hl hbst hk
    have b1 := k_min_le (fun p => k_heard P W K p + k_some P W N p) j
    have b2 := k_heard_le P W K j
    have b3 := k_some_le P W N j
    refine V_iload_n 25 3 dX2_leastSum_25 rfl ?_
    refine V_aload_n 26 0 dX2_leastSum_26 rfl ?_
    refine V_getR 27 flX2_30 dX2_leastSum_27 rfl ?_
    refine V_getI 30 flX2_34 dX2_leastSum_30 rfl ?_
    rw [hR.1]
    refine V_cN_ge 33 66 dX2_leastSum_33 (by decide) (by omega) (by omega) (fun c => ?_) (fun c => ?_)
    · omega
    refine V_aload_n 36 0 dX2_leastSum_36 rfl ?_
    refine V_aload_n 37 0 dX2_leastSum_37 rfl ?_
    refine V_getL 38 flX2_56 dX2_leastSum_38 rfl ?_
    rw [hbst]
    refine V_aload_n 41 0 dX2_leastSum_41 rfl ?_
    refine V_getR 42 flX2_18 dX2_leastSum_42 rfl ?_
    refine V_iload_n 45 3 dX2_leastSum_45 rfl ?_
    refine V_lald 46 dX2_leastSum_46 rfl (by omega) (by omega) ?_
    rw [h61 j (by omega)]
    refine V_aload_n 47 0 dX2_leastSum_47 rfl ?_
    refine V_getR 48 flX2_24 dX2_leastSum_48 rfl ?_
    refine V_iload_n 51 3 dX2_leastSum_51 rfl ?_
    refine V_lald 52 dX2_leastSum_52 hu.su (by omega) (by omega) ?_
    rw [hl j (by omega)]
    refine V_addl 53 dX2_leastSum_53 ?_
    refine V_minl 54 (by omega) (by omega) mmX2_60 dX2_leastSum_54 (w_fit.mono (by omega) hE) (Nat.le_of_ble_eq_true rfl) ?_
    rw [← k_min_succ (fun p => k_heard P W K p + k_some P W N p)]
    refine V_putL 57 flX2_56 ft_2_7 dX2_leastSum_57 rfl ?_
    refine V_inc 60 3 _ [(0, _), (1, _), (2, _), (3, _)] dX2_leastSum_60 rfl rfl rfl (by decide) rfl ?_
    refine V_goto 63 25 dX2_leastSum_63 (by decide) ?_
    have hf : Fr 58 59 L (w_put L 58 7 (k_min (fun p => k_heard P W K p + k_some P W N p) (j + 1))) := Fr.rf.put (by decide) (by decide)
    refine ih (j + 1) _ (by omega) (fun i hi => by rw [hf 61 (by decide)]; exact h61 i hi) (fun i hi => by rw [hf u (by omega)]; exact hl i hi) (w_put_same _ _ _ _) (fun L' g1 g2 => hk L' (hf.trans g1) g2)
theorem lg_lt {a b : Nat} (ha : a < 2 ^ 63) (hb : b < 2 ^ 63) : (0 ≤ lg_cmp (lN a) (lN b)) ↔ b ≤ a := by
  unfold lg_cmp
  by_cases h1 : lN b < lN a
  · rw [if_pos h1]
    have := (pk_lLT hb ha).mp h1
    exact ⟨fun _ => by omega, fun _ => by decide⟩
  · rw [if_neg (show ¬ lN a > lN b from h1)]
    by_cases h2 : lN a = lN b
    · rw [if_pos h2]
      have := (pk_lEQ ha hb).mp h2
      exact ⟨fun _ => by omega, fun _ => by decide⟩
    · rw [if_neg h2]
      have h3 : ¬ b < a := fun e => h1 ((pk_lLT hb ha).mpr e)
      have h4 : a ≠ b := fun e => h2 ((pk_lEQ ha hb).mpr e)
      exact ⟨fun e => absurd e (by decide), fun e => by omega⟩
theorem c_leastSum {L : w_L} {K days : Nat} (hP : s_POK P) (hR : PRep 15 P I) (hA : ARep P I) (hu : UV u v) (hd1 : 1 ≤ days) (hd2 : days ≤ 400) (hK : K < 64) (hW : WRep P W L) (hWb : ∀ i, W i ≤ FAR) : FnI Ω (d + 4) mX2_leastSum [.ref (Ω.1 + 58), .int (nI K), .int (nI days)] (SH u v) I L (fun r S' I' L' => ∃ u' v', S' = SH u' v' ∧ UV u' v' ∧ I = I' ∧ r = nI (if k_best P W K (days - 1) < FAR then k_best P W K (days - 1) / 1048576 else mI) ∧ L' 58 7 = k_best P W K (days - 1) ∧ Fr 58 65 L L') := by
  have hFAR : FAR = 1125899906842624 := rfl
  have hbl : k_best P W K (days - 1) ≤ FAR := k_min_le _ _
  refine FnR_of okX2_leastSum (Nat.le_of_ble_eq_true rfl) fun l z => ?_
  have hE : w_fit (d + 3) (w_Er l (d + 4) 0 0 Ω (w_pi (fun r S' I' L' => ∃ u' v', S' = SH u' v' ∧ UV u' v' ∧ I = I' ∧ r = nI (if k_best P W K (days - 1) < FAR then k_best P W K (days - 1) / 1048576 else mI) ∧ L' 58 7 = k_best P W K (days - 1) ∧ Fr 58 65 L L')) z) := w_fit_r
  show V _ _ _ _ _ _ _ _ 0 [(0, _), (1, _), (2, _)] []
  refine V_aload_n 0 0 dX2_leastSum_0 rfl ?_
  refine V_vv 1 mvX2_46 dX2_leastSum_1 ⟨_, _, _, rfl, rfl, rfl⟩ (w_fit.mono (by omega) hE) (c_findDaySums (d := d) hP hR hA hW hWb) rfl (Nat.le_of_ble_eq_true rfl) ?_
  rintro _ _ L1 ⟨rfl, rfl, h1, h2⟩
  refine V_aload_n 4 0 dX2_leastSum_4 rfl ?_
  refine V_iload_n 5 2 dX2_leastSum_5 rfl ?_
  refine V_cst 6 1 dX2_leastSum_6 rfl ?_
  refine V_sub1 7 dX2_leastSum_7 (by omega) ?_
  refine V_vv 8 mvX2_49 dX2_leastSum_8 ⟨_, _, _, rfl, rfl, rfl⟩ (w_fit.mono (by omega) hE) (c_sumDays (d := d) (W := W) hP hR hu (by omega) h1) rfl (Nat.le_of_ble_eq_true rfl) ?_
  rintro _ _ L2 ⟨u', v', rfl, hu', rfl, h3, h4⟩
  have hb := hu'.b
  refine V_aload_n 11 0 dX2_leastSum_11 rfl ?_
  refine V_iload_n 12 1 dX2_leastSum_12 rfl ?_
  have hW2 : WRep P W L2 := (hW.fr h2 (by decide)).fr h4 (by decide)
  refine V_vv 13 mvX2_53 dX2_leastSum_13 ⟨_, _, _, rfl, rfl, rfl⟩ (w_fit.mono (by omega) hE) (c_throughDay (d := d) hP hR hA hK hW2 hWb) rfl (Nat.le_of_ble_eq_true rfl) ?_
  rintro _ _ L3 ⟨rfl, rfl, h5, h6⟩
  refine V_aload_n 16 0 dX2_leastSum_16 rfl ?_
  refine V_ldc2N 17 1125899906842624 klX2_44 dX2_leastSum_17 rfl ?_
  refine V_putL 20 flX2_56 ft_2_7 dX2_leastSum_20 rfl ?_
  refine V_cst 23 0 dX2_leastSum_23 rfl ?_
  refine V_istore_n 24 [(0, _), (1, _), (2, _), (3, _)] dX2_leastSum_24 (by decide) rfl ?_
  have hf : Fr 58 65 L (w_put L3 58 7 1125899906842624) := ((((h2.wide (by decide) (by decide)).trans (h4.wide (by decide) (by decide))).trans (h6.wide (by decide) (by decide))).put (by decide) (by decide))
  refine ls_l (N := days - 1) (K := K) (W := W) hE hP hR hu' (P 0 0) 0 _ (by omega) (fun i hi => by rw [w_put_ne _ _ (by decide)]; exact h5 i hi) (fun i hi => by rw [w_put_ne _ _ (by omega), h6 u' (by omega)]; exact h3 i hi) (w_put_same _ _ _ _) (fun L' g1 g2 => ?_)
  have hf2 : Fr 58 65 L L' := hf.trans (g1.wide (by decide) (by decide))
  refine V_aload_n 66 0 dX2_leastSum_66 rfl ?_
  refine V_getL 67 flX2_56 dX2_leastSum_67 rfl ?_
  rw [g2]
  refine V_ldc2N 70 1125899906842624 klX2_44 dX2_leastSum_70 rfl ?_
  refine V_lcmp 73 dX2_leastSum_73 ?_
  refine V_if_ge 74 88 dX2_leastSum_74 (by decide) (fun c => ?_) (fun c => ?_)
  · have c := (lg_lt (by omega) (by decide)).mp c
    refine V_cst 88 4294967295 dX2_leastSum_88 rfl ?_
    exact V_iret 89 dX2_leastSum_89 rfl ⟨u', v', rfl, hu', rfl, by rw [if_neg (by omega)], g2, hf2⟩
  · have c : k_best P W K (days - 1) < FAR := Nat.lt_of_not_le (fun e => c ((lg_lt (by omega) (by decide)).mpr e))
    refine V_aload_n 77 0 dX2_leastSum_77 rfl ?_
    refine V_getL 78 flX2_56 dX2_leastSum_78 rfl ?_
    rw [g2]
    refine V_bip 81 20 dX2_leastSum_81 rfl ?_
    refine V_shrl 83 dX2_leastSum_83 (by omega) (by omega) ?_
    refine V_narrow 84 dX2_leastSum_84 ?_
    refine V_goto 85 89 dX2_leastSum_85 (by decide) ?_
    exact V_iret 89 dX2_leastSum_89 rfl ⟨u', v', rfl, hu', rfl, by rw [if_pos c], g2, hf2⟩
/-! writeRow -/
theorem V_dec {M : w_M} {k n : Nat} {S : List w_SC} {L : w_L} {ls : List (Nat × Value)} {st : List Value} (pc j : Nat) (ls' : List (Nat × Value)) {i x : Nat} {q : Int} (dd : decode M.2.2.1 pc = .ok (.iinc i q, 3)) (hk : ls[j]? = some (i, .int (nI x))) (hq : q = -1) (hi : i < M.2.2.2.1) (hs : w_st ls i (.int (nI (x + 4294967295))) = ls') (h : V M E Ω k n S I L (pc + 3) ls' st) : V M E Ω k n S I L pc ls st := V_iinc pc j (nI (x + 4294967295)) ls' dd hk (by rw [hq, ← nI_add]; rfl) hi hs h
theorem dec_e (j : Nat) : nI (j + 1 + 4294967295) = nI j := n_mod (by omega)
theorem ord_inj {a b : Nat} (hP : s_POK P) (ha : a < P 2 0) (hb : b < P 2 0) (h : (s_ord P).getD a 0 = (s_ord P).getD b 0) : a = b := by
  have h1 : a < (s_ord P).length := by rw [s_ord_len hP]; exact ha
  have h2 : b < (s_ord P).length := by rw [s_ord_len hP]; exact hb
  rw [List.getD_eq_getElem?_getD, List.getD_eq_getElem?_getD, List.getElem?_eq_getElem h1, List.getElem?_eq_getElem h2] at h
  have h : (s_ord P)[a] = (s_ord P)[b] := h
  have hn := List.pairwise_iff_getElem.mp (s_ord_nodup P)
  rcases Nat.lt_trichotomy a b with e | e | e
  · exact absurd h (hn a b h1 h2 e)
  · exact e
  · exact absurd h.symm (hn b a h2 h1 e)
theorem wr_l {L : w_L} {D : Nat} (hP : s_POK P) (hD : D < 1048576) : ∀ (j : Nat) (I : w_I), j ≤ 12 → PRep 15 P I → ARep P I → (∀ p, j ≤ p → p < P 2 0 → I 65 ((s_ord P).getD p 0) = D / 3 ^ (11 - p) % 3) →
    (∀ I' x y, Fr 65 66 I I' → (∀ p, p < P 2 0 → I' 65 ((s_ord P).getD p 0) = D / 3 ^ (11 - p) % 3) → V mX2_writeRow E Ω 0 0 (SH u v) I' L 52 [(0, .ref (Ω.1 + 58)), (1, .ref (Ω.1 + 65)), (2, .int (nI x)), (3, .int (nI y))] []) →
    V mX2_writeRow E Ω 0 0 (SH u v) I L 13 [(0, .ref (Ω.1 + 58)), (1, .ref (Ω.1 + 65)), (2, .int (nI (D / 3 ^ (12 - j)))), (3, .int (nI (j + 4294967295)))] [] := by
  have h12 := hP.2.2.1
  intro j
  induction j with
  | zero =>
    intro I _ hR hA hl hk
    refine V_iload_n 13 3 dX2_writeRow_13 rfl ?_
    refine V_zN_lt 14 52 dX2_writeRow_14 (by decide) (by omega) (fun c => ?_) (fun c => ?_)
    · exact hk I _ _ Fr.rf (fun p hp => hl p (Nat.zero_le _) hp)
    · omega
  | succ j ih =>
    intro I hj hR hA hl hk
    have hle : D / 3 ^ (12 - (j + 1)) ≤ D := Nat.div_le_self _ _
    have e3 : D / 3 ^ (12 - (j + 1)) / 3 = D / 3 ^ (12 - j) := by rw [Nat.div_div_eq_div_mul, ← Nat.pow_succ, show (12 - (j + 1)).succ = 12 - j by omega]
    have step : ∀ I1 : w_I, Fr 65 66 I I1 → (∀ p, j ≤ p → p < P 2 0 → I1 65 ((s_ord P).getD p 0) = D / 3 ^ (11 - p) % 3) → V mX2_writeRow E Ω 0 0 (SH u v) I1 L 42 [(0, .ref (Ω.1 + 58)), (1, .ref (Ω.1 + 65)), (2, .int (nI (D / 3 ^ (12 - (j + 1))))), (3, .int (nI j))] [] := by
      intro I1 h1 h2
      refine V_iload_n 42 2 dX2_writeRow_42 rfl ?_
      refine V_cst 43 3 dX2_writeRow_43 rfl ?_
      refine V_div 44 dX2_writeRow_44 (by omega) (by omega) (by omega) ?_
      rw [e3]
      refine V_istore_n 45 [(0, _), (1, _), (2, _), (3, _)] dX2_writeRow_45 (by decide) rfl ?_
      refine V_dec 46 3 [(0, _), (1, _), (2, _), (3, _)] dX2_writeRow_46 rfl rfl (by decide) rfl ?_
      refine V_goto 49 13 dX2_writeRow_49 (by decide) ?_
      exact ih I1 (by omega) (hR.fr h1 (by decide)) (hA.fr h1 (by decide)) h2 (fun I' x y g1 g2 => hk I' x y (h1.trans g1) g2)
    rw [dec_e]
    refine V_iload_n 13 3 dX2_writeRow_13 rfl ?_
    refine V_zN_lt 14 52 dX2_writeRow_14 (by decide) (by omega) (fun c => ?_) (fun c => ?_)
    · omega
    refine V_iload_n 17 3 dX2_writeRow_17 rfl ?_
    refine V_aload_n 18 0 dX2_writeRow_18 rfl ?_
    refine V_getR 19 flX2_30 dX2_writeRow_19 rfl ?_
    refine V_getI 22 flX2_68 dX2_writeRow_22 rfl ?_
    rw [hR.2.2.1]
    refine V_cN_ge 25 42 dX2_writeRow_25 (by decide) (by omega) (by omega) (fun c1 => ?_) (fun c1 => ?_)
    · exact step I Fr.rf (fun p hp hp2 => hl p (by omega) hp2)
    have ho := s_ord_getD_lt hP c1
    refine V_aload_n 28 1 dX2_writeRow_28 rfl ?_
    refine V_aload_n 29 0 dX2_writeRow_29 rfl ?_
    refine V_getR 30 flX2_30 dX2_writeRow_30 rfl ?_
    refine V_getR 33 flX2_71 dX2_writeRow_33 rfl ?_
    refine V_iload_n 36 3 dX2_writeRow_36 rfl ?_
    refine V_iald 37 dX2_writeRow_37 rfl (by omega) (by omega) ?_
    rw [hA.1 j c1]
    refine V_iload_n 38 2 dX2_writeRow_38 rfl ?_
    refine V_cst 39 3 dX2_writeRow_39 rfl ?_
    refine V_rem 40 dX2_writeRow_40 (by omega) (by omega) (by omega) ?_
    refine V_iast 41 dX2_writeRow_41 rfl (by omega) (by omega) ?_
    refine step _ (Fr.rf.put (by decide) (by decide)) (fun p hp hp2 => ?_)
    by_cases e : p = j
    · subst e
      rw [w_put_same, show 12 - (p + 1) = 11 - p by omega]
    · rw [w_put_other _ (Or.inr (fun h => e (ord_inj hP hp2 c1 h)))]
      exact hl p (by omega) hp2
theorem c_writeRow {L : w_L} {B : Nat} (hP : s_POK P) (hR : PRep 15 P I) (hA : ARep P I) (hB : L 58 7 = B) : FnV Ω (d + 1) mX2_writeRow [.ref (Ω.1 + 58), .ref (Ω.1 + 65)] (SH u v) I L (fun S' I' L' => S' = SH u v ∧ L = L' ∧ (∀ p, p < P 2 0 → I' 65 ((s_ord P).getD p 0) = B % 1048576 / 3 ^ (11 - p) % 3) ∧ Fr 65 66 I I') := by
  refine FnR_of okX2_writeRow (Nat.le_of_ble_eq_true rfl) fun l z => ?_
  show V _ _ _ _ _ _ _ _ 0 [(0, _), (1, _)] []
  refine V_aload_n 0 0 dX2_writeRow_0 rfl ?_
  refine V_getL 1 flX2_56 dX2_writeRow_1 rfl ?_
  refine V_ldc2N 4 1048575 klX2_66 dX2_writeRow_4 rfl ?_
  refine V_andl 7 dX2_writeRow_7 ?_
  rw [hB, show B &&& 1048575 = B % 1048576 from Nat.and_two_pow_sub_one_eq_mod B 20]
  refine V_narrow 8 dX2_writeRow_8 ?_
  refine V_istore_n 9 [(0, _), (1, _), (2, _)] dX2_writeRow_9 (by decide) rfl ?_
  refine V_bip 10 11 dX2_writeRow_10 rfl ?_
  refine V_istore_n 12 [(0, _), (1, _), (2, _), (3, _)] dX2_writeRow_12 (by decide) rfl ?_
  have h1 := wr_l (E := w_Er l (d + 1) 0 0 Ω (w_pv (fun S' I' L' => S' = SH u v ∧ L = L' ∧ (∀ p, p < P 2 0 → I' 65 ((s_ord P).getD p 0) = B % 1048576 / 3 ^ (11 - p) % 3) ∧ Fr 65 66 I I')) z) (Ω := Ω) (u := u) (v := v) (L := L) hP (Nat.mod_lt B (show 0 < 1048576 by decide)) 12 I (Nat.le_refl _) hR hA (fun p h1 h2 => absurd hP.2.2.1 (by omega)) (fun I' x y g1 g2 => V_ret 52 dX2_writeRow_52 rfl ⟨rfl, rfl, g2, g1⟩)
  rw [dec_e 11] at h1
  simpa using h1
end
