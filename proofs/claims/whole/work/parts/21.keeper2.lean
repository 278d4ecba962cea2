section
variable {Ω : w_O} {d u v : Nat} {I : w_I} {E : w_E} {P : w_R} {W : Nat → Nat}
theorem bit1_lt (x : Nat) : x &&& 1 < 4294967296 := and_lt2 (by decide)
/-! prepare -/
theorem kp_l {si : Nat} {bp : Bool} {b : Nat} (hE : w_fit d E) (hP : s_POK P) (hR : PRep 15 P I) (hsi : si < 64) (hb : b < 2) (hbp : b ≠ 0 ↔ bp = true) : ∀ (n j : Nat) (L : w_L), j + n = P 0 0 → (∀ i, i < j → L 59 i = k_W P si bp i) →
    (∀ L', Fr 59 60 L L' → WRep P (k_W P si bp) L' → V mX2_prepare E Ω 0 0 (SH u v) I L' 64 [(0, .ref (Ω.1 + 58)), (1, .int (nI si)), (2, .int (nI b)), (3, .int (nI (P 0 0)))] []) →
    V mX2_prepare E Ω 0 0 (SH u v) I L 2 [(0, .ref (Ω.1 + 58)), (1, .int (nI si)), (2, .int (nI b)), (3, .int (nI j))] [] := by
  have h6 := hP.1.2
  intro n
  induction n with
  | zero =>
    intro j L hj hl hk
    have e : j = P 0 0 := by omega
    subst e
    refine V_iload_n 2 3 dX2_prepare_2 rfl ?_
    refine V_aload_n 3 0 dX2_prepare_3 rfl ?_
    refine V_getR 4 flX2_30 dX2_prepare_4 rfl ?_
    refine V_getI 7 flX2_34 dX2_prepare_7 rfl ?_
    rw [hR.1]
    refine V_cN_ge 10 64 dX2_prepare_10 (by decide) (by omega) (by omega) (fun c => ?_) (fun c => ?_)
    · exact hk L Fr.rf hl
    · omega
  | succ n ih =>
    intro j L hj hl hk
    have hpr := hP.2.1 j (by omega)
    have hprI := hR.2.1 j (by omega)
    have k33 : ∀ x, x = (if bp then P 1 j else 1) → V mX2_prepare E Ω 0 0 (SH u v) I L 31 [(0, .ref (Ω.1 + 58)), (1, .int (nI si)), (2, .int (nI b)), (3, .int (nI j))] [.long (lN x)] := by
      intro x hx
      have fin : ∀ y, y = k_W P si bp j → V mX2_prepare E Ω 0 0 (SH u v) I L 57 [(0, .ref (Ω.1 + 58)), (1, .int (nI si)), (2, .int (nI b)), (3, .int (nI j)), (4, .long (lN x))] [.long (lN y), .int (nI j), .ref (Ω.1 + 59)] := by
        intro y hy
        refine V_last 57 dX2_prepare_57 rfl (by omega) (by omega) ?_
        refine V_inc 58 3 _ [(0, _), (1, _), (2, _), (3, _), (4, _)] dX2_prepare_58 rfl rfl rfl (by decide) rfl ?_
        refine V_goto 61 2 dX2_prepare_61 (by decide) ?_
        refine V_sub [(0, _), (1, _), (2, _), (3, _)] [0, 1, 2, 3] rfl ?_
        refine ih (j + 1) _ (by omega) (fun i hi => ?_) (fun L' h1 h2 => hk L' ((Fr.rf.put (by decide) (by decide)).trans h1) h2)
        by_cases e : i = j
        · rw [e, w_put_same, hy]
        · rw [w_put_other _ (Or.inr e)]; exact hl i (by omega)
      refine V_lstore 31 [(0, _), (1, _), (2, _), (3, _), (4, _)] dX2_prepare_31 (by decide) rfl ?_
      refine V_aload_n 33 0 dX2_prepare_33 rfl ?_
      refine V_getR 34 flX2_11 dX2_prepare_34 rfl ?_
      refine V_iload_n 37 3 dX2_prepare_37 rfl ?_
      refine V_iload_n 38 1 dX2_prepare_38 rfl ?_
      refine V_iload_n 39 3 dX2_prepare_39 rfl ?_
      refine V_shr 40 dX2_prepare_40 (by omega) (by omega) ?_
      refine V_cst 41 1 dX2_prepare_41 rfl ?_
      refine V_and 42 dX2_prepare_42 ?_
      refine V_zN_eq 43 52 dX2_prepare_43 (by decide) (bit1_lt _) (fun c1 => ?_) (fun c1 => ?_)
      · refine V_lload 52 4 dX2_prepare_52 rfl ?_
        refine V_bip 54 20 dX2_prepare_54 rfl ?_
        refine V_shll 56 dX2_prepare_56 (by omega) ?_
        exact fin _ (by unfold k_W; rw [if_neg (fun e => e c1), ← hx])
      · refine V_ldc2N 46 1125899906842624 klX2_44 dX2_prepare_46 rfl ?_
        refine V_goto 49 57 dX2_prepare_49 (by decide) ?_
        exact fin _ (by unfold k_W; rw [if_pos c1])
    refine V_iload_n 2 3 dX2_prepare_2 rfl ?_
    refine V_aload_n 3 0 dX2_prepare_3 rfl ?_
    refine V_getR 4 flX2_30 dX2_prepare_4 rfl ?_
    refine V_getI 7 flX2_34 dX2_prepare_7 rfl ?_
    rw [hR.1]
    refine V_cN_ge 10 64 dX2_prepare_10 (by decide) (by omega) (by omega) (fun c => ?_) (fun c => ?_)
    · omega
    refine V_iload_n 13 2 dX2_prepare_13 rfl ?_
    refine V_zN_eq 14 30 dX2_prepare_14 (by decide) (by omega) (fun c2 => ?_) (fun c2 => ?_)
    · refine V_lcst 30 1 dX2_prepare_30 rfl ?_
      refine k33 1 ?_
      rw [if_neg (fun e => hbp.mpr e c2)]
    · refine V_aload_n 17 0 dX2_prepare_17 rfl ?_
      refine V_getR 18 flX2_30 dX2_prepare_18 rfl ?_
      refine V_getR 21 flX2_40 dX2_prepare_21 rfl ?_
      refine V_iload_n 24 3 dX2_prepare_24 rfl ?_
      refine V_iald 25 dX2_prepare_25 rfl (by omega) (by omega) ?_
      rw [hprI]
      refine V_widen 26 dX2_prepare_26 (by omega) ?_
      refine V_goto 27 31 dX2_prepare_27 (by decide) ?_
      refine k33 _ ?_
      rw [if_pos (hbp.mp c2)]
theorem c_prepare {L : w_L} {si : Nat} {bp : Bool} {b : Nat} (hP : s_POK P) (hR : PRep 15 P I) (hsi : si < 64) (hb : b < 2) (hbp : b ≠ 0 ↔ bp = true) : FnV Ω (d + 1) mX2_prepare [.ref (Ω.1 + 58), .int (nI si), .int (nI b)] (SH u v) I L (fun S' I' L' => S' = SH u v ∧ I = I' ∧ WRep P (k_W P si bp) L' ∧ Fr 59 60 L L') := by
  refine FnR_of okX2_prepare (Nat.le_of_ble_eq_true rfl) fun l z => ?_
  show V _ _ _ _ _ _ _ _ 0 [(0, _), (1, _), (2, _)] []
  refine V_cst 0 0 dX2_prepare_0 rfl ?_
  refine V_istore_n 1 [(0, _), (1, _), (2, _), (3, _)] dX2_prepare_1 (by decide) rfl ?_
  refine kp_l (d := d) w_fit_r hP hR hsi hb hbp (P 0 0) 0 L (by omega) (fun i hi => absurd hi (Nat.not_lt_zero _)) (fun L' h1 h2 => ?_)
  exact V_ret 64 dX2_prepare_64 rfl ⟨rfl, rfl, h2, h1⟩
/-! throughDay -/
theorem td_1 {K : Nat} (hE : w_fit d E) (hP : s_POK P) (hR : PRep 15 P I) (hK : K < 64) : ∀ (n j : Nat) (L : w_L), j + n = P 0 0 → (∀ i, i < j → L 60 i = k_0 K 0 i ∧ L 61 i = k_0 K 1 i) →
    (∀ L', Fr 60 62 L L' → ZRep P (k_0 K) L' → V mX2_throughDay E Ω 0 0 (SH u v) I L' 49 [(0, .ref (Ω.1 + 58)), (1, .int (nI K)), (2, .int (nI (P 0 0)))] []) →
    V mX2_throughDay E Ω 0 0 (SH u v) I L 2 [(0, .ref (Ω.1 + 58)), (1, .int (nI K)), (2, .int (nI j))] [] := by
  have h6 := hP.1.2
  intro n
  induction n with
  | zero =>
    intro j L hj hl hk
    have e : j = P 0 0 := by omega
    subst e
    refine V_iload_n 2 2 dX2_throughDay_2 rfl ?_
    refine V_aload_n 3 0 dX2_throughDay_3 rfl ?_
    refine V_getR 4 flX2_30 dX2_throughDay_4 rfl ?_
    refine V_getI 7 flX2_34 dX2_throughDay_7 rfl ?_
    rw [hR.1]
    refine V_cN_ge 10 49 dX2_throughDay_10 (by decide) (by omega) (by omega) (fun c => ?_) (fun c => ?_)
    · exact hk L Fr.rf hl
    · omega
  | succ n ih =>
    intro j L hj hl hk
    have fin : ∀ y, y = k_0 K 0 j → V mX2_throughDay E Ω 0 0 (SH u v) I L 33 [(0, .ref (Ω.1 + 58)), (1, .int (nI K)), (2, .int (nI j))] [.long (lN y), .int (nI j), .ref (Ω.1 + 60)] := by
      intro y hy
      refine V_last 33 dX2_throughDay_33 rfl (by omega) (by omega) ?_
      refine V_aload_n 34 0 dX2_throughDay_34 rfl ?_
      refine V_getR 35 flX2_18 dX2_throughDay_35 rfl ?_
      refine V_iload_n 38 2 dX2_throughDay_38 rfl ?_
      refine V_ldc2N 39 1125899906842624 klX2_44 dX2_throughDay_39 rfl ?_
      refine V_last 42 dX2_throughDay_42 rfl (by omega) (by omega) ?_
      refine V_inc 43 2 _ [(0, _), (1, _), (2, _)] dX2_throughDay_43 rfl rfl rfl (by decide) rfl ?_
      refine V_goto 46 2 dX2_throughDay_46 (by decide) ?_
      refine ih (j + 1) _ (by omega) (fun i hi => ?_) (fun L' h1 h2 => hk L' (((Fr.rf.put (by decide) (by decide)).put (by decide) (by decide)).trans h1) h2)
      by_cases e : i = j
      · subst e
        rw [w_put_other _ (Or.inl (by decide)), w_put_same, w_put_same]
        exact ⟨hy, by unfold k_0; rw [if_neg (fun e => absurd e.1 (by decide))]⟩
      · rw [w_put_other _ (Or.inl (by decide)), w_put_other _ (Or.inr e), w_put_other _ (Or.inr e), w_put_other _ (Or.inl (by decide))]
        exact hl i (by omega)
    refine V_iload_n 2 2 dX2_throughDay_2 rfl ?_
    refine V_aload_n 3 0 dX2_throughDay_3 rfl ?_
    refine V_getR 4 flX2_30 dX2_throughDay_4 rfl ?_
    refine V_getI 7 flX2_34 dX2_throughDay_7 rfl ?_
    rw [hR.1]
    refine V_cN_ge 10 49 dX2_throughDay_10 (by decide) (by omega) (by omega) (fun c => ?_) (fun c => ?_)
    · omega
    refine V_aload_n 13 0 dX2_throughDay_13 rfl ?_
    refine V_getR 14 flX2_15 dX2_throughDay_14 rfl ?_
    refine V_iload_n 17 2 dX2_throughDay_17 rfl ?_
    refine V_iload_n 18 1 dX2_throughDay_18 rfl ?_
    refine V_iload_n 19 2 dX2_throughDay_19 rfl ?_
    refine V_shr 20 dX2_throughDay_20 (by omega) (by omega) ?_
    refine V_cst 21 1 dX2_throughDay_21 rfl ?_
    refine V_and 22 dX2_throughDay_22 ?_
    refine V_zN_eq 23 30 dX2_throughDay_23 (by decide) (bit1_lt _) (fun c1 => ?_) (fun c1 => ?_)
    · refine V_ldc2N 30 1125899906842624 klX2_44 dX2_throughDay_30 rfl ?_
      exact fin _ (by unfold k_0; rw [if_neg (fun e => e.2 c1)])
    · refine V_lcst 26 0 dX2_throughDay_26 rfl ?_
      refine V_goto 27 33 dX2_throughDay_27 (by decide) ?_
      exact fin _ (by unfold k_0; rw [if_pos ⟨rfl, c1⟩])
theorem td_2 {K : Nat} (hE : w_fit (d + 1) E) (hP : s_POK P) (hR : PRep 15 P I) (hA : ARep P I) (hWb : ∀ i, W i ≤ FAR) : ∀ (n j : Nat) (L : w_L), j + n = P 2 0 → WRep P W L → ZRep P (k_day P W K j) L →
    (∀ L', Fr 60 62 L L' → ZRep P (k_day P W K (P 2 0)) L' → V mX2_throughDay E Ω 0 0 (SH u v) I L' 86 [(0, .ref (Ω.1 + 58)), (1, .int (nI K)), (2, .int (nI (P 2 0)))] []) →
    V mX2_throughDay E Ω 0 0 (SH u v) I L 51 [(0, .ref (Ω.1 + 58)), (1, .int (nI K)), (2, .int (nI j))] [] := by
  have h12 := hP.2.2.1
  intro n
  induction n with
  | zero =>
    intro j L hj hW hZ hk
    have e : j = P 2 0 := by omega
    subst e
    refine V_iload_n 51 2 dX2_throughDay_51 rfl ?_
    refine V_aload_n 52 0 dX2_throughDay_52 rfl ?_
    refine V_getR 53 flX2_30 dX2_throughDay_53 rfl ?_
    refine V_getI 56 flX2_68 dX2_throughDay_56 rfl ?_
    rw [hR.2.2.1]
    refine V_cN_ge 59 86 dX2_throughDay_59 (by decide) (by omega) (by omega) (fun c => ?_) (fun c => ?_)
    · exact hk L Fr.rf hZ
    · omega
  | succ n ih =>
    intro j L hj hW hZ hk
    refine V_iload_n 51 2 dX2_throughDay_51 rfl ?_
    refine V_aload_n 52 0 dX2_throughDay_52 rfl ?_
    refine V_getR 53 flX2_30 dX2_throughDay_53 rfl ?_
    refine V_getI 56 flX2_68 dX2_throughDay_56 rfl ?_
    rw [hR.2.2.1]
    refine V_cN_ge 59 86 dX2_throughDay_59 (by decide) (by omega) (by omega) (fun c => ?_) (fun c => ?_)
    · omega
    refine V_aload_n 62 0 dX2_throughDay_62 rfl ?_
    refine V_aload_n 63 0 dX2_throughDay_63 rfl ?_
    refine V_getR 64 flX2_30 dX2_throughDay_64 rfl ?_
    refine V_getR 67 flX2_71 dX2_throughDay_67 rfl ?_
    refine V_iload_n 70 2 dX2_throughDay_70 rfl ?_
    refine V_iald 71 dX2_throughDay_71 rfl (by omega) (by omega) ?_
    refine V_digit 72 w_dl dX2_throughDay_72 ?_
    refine V_iload_n 75 2 dX2_throughDay_75 rfl ?_
    refine V_digld 76 dX2_throughDay_76 (by omega) ?_
    rw [hA.1 j (by omega)]
    refine V_vv 77 mvX2_85 dX2_throughDay_77 ⟨_, _, _, rfl, rfl, rfl⟩ (w_fit.mono (by omega) hE) (c_throughMeeting (d := d) hP hR (s_ord_getD_lt hP (by omega)) (w_dn_lt j) hW hWb hZ (k_day_b j)) rfl (Nat.le_of_ble_eq_true rfl) ?_
    rintro _ _ L1 ⟨rfl, rfl, h1, h2⟩
    refine V_inc 80 2 _ [(0, _), (1, _), (2, _)] dX2_throughDay_80 rfl rfl rfl (by decide) rfl ?_
    refine V_goto 83 51 dX2_throughDay_83 (by decide) ?_
    refine ih (j + 1) L1 (by omega) (hW.fr h2 (by decide)) (by rw [k_day_succ]; exact h1) (fun L' g1 g2 => hk L' (h2.trans g1) g2)
theorem c_throughDay {L : w_L} {K : Nat} (hP : s_POK P) (hR : PRep 15 P I) (hA : ARep P I) (hK : K < 64) (hW : WRep P W L) (hWb : ∀ i, W i ≤ FAR) : FnV Ω (d + 2) mX2_throughDay [.ref (Ω.1 + 58), .int (nI K)] (SH u v) I L (fun S' I' L' => S' = SH u v ∧ I = I' ∧ (∀ i, i < P 0 0 → L' 61 i = k_heard P W K i) ∧ Fr 60 62 L L') := by
  refine FnR_of okX2_throughDay (Nat.le_of_ble_eq_true rfl) fun l z => ?_
  show V _ _ _ _ _ _ _ _ 0 [(0, _), (1, _)] []
  refine V_cst 0 0 dX2_throughDay_0 rfl ?_
  refine V_istore_n 1 [(0, _), (1, _), (2, _)] dX2_throughDay_1 (by decide) rfl ?_
  refine td_1 (d := d + 1) w_fit_r hP hR hK (P 0 0) 0 L (by omega) (fun i hi => absurd hi (Nat.not_lt_zero _)) (fun L1 h1 h2 => ?_)
  refine V_cst 49 0 dX2_throughDay_49 rfl ?_
  refine V_istore_n 50 [(0, _), (1, _), (2, _)] dX2_throughDay_50 (by decide) rfl ?_
  refine td_2 (d := d) w_fit_r hP hR hA hWb (P 2 0) 0 L1 (by omega) (hW.fr h1 (by decide)) h2 (fun L2 g1 g2 => ?_)
  exact V_ret 86 dX2_throughDay_86 rfl ⟨rfl, rfl, fun i hi => (g2 i hi).2, h1.trans g1⟩
/-! findDaySums -/
theorem mask_and {x : Nat} (h : x < 2 ^ 64) : x &&& 18446744073708503040 = x / 1048576 * 1048576 := by
  apply Nat.eq_of_testBit_eq
  intro i
  rw [Nat.testBit_and, show (18446744073708503040 : Nat) = (2 ^ 44 - 1) * 2 ^ 20 from rfl, show x / 1048576 * 1048576 = (x / 2 ^ 20) * 2 ^ 20 from rfl, Nat.testBit_mul_two_pow, Nat.testBit_mul_two_pow, Nat.testBit_two_pow_sub_one, Nat.testBit_div_two_pow]
  by_cases h1 : 20 ≤ i
  · rw [show i - 20 + 20 = i by omega]
    by_cases h2 : i < 64
    · have h3 : decide (i - 20 < 44) = true := decide_eq_true (by omega)
      simp [h1, h3]
    · have h3 : x.testBit i = false := Nat.testBit_lt_two_pow (Nat.lt_of_lt_of_le h (Nat.pow_le_pow_right (by decide) (by omega)))
      simp [h3]
  · simp [h1]
theorem fd_in {p : Nat} (hE : w_fit d E) (hP : s_POK P) (hR : PRep 15 P I) (hp : p < P 0 0) : ∀ (n j : Nat) (L : w_L), j + n = P 0 0 → (∀ i, i < P 0 0 → L 61 i = k_heard P W (2 ^ p) i) → (∀ i, i < j → L 62 (6 * p + i) = k_ds P W p i) →
    (∀ L', Fr 62 63 L L' → (∀ q, (q < 6 * p ∨ 6 * p + P 0 0 ≤ q) → L' 62 q = L 62 q) → (∀ i, i < P 0 0 → L' 62 (6 * p + i) = k_ds P W p i) → V mX2_findDaySums E Ω 0 0 (SH u v) I L' 60 [(0, .ref (Ω.1 + 58)), (1, .int (nI p)), (2, .int (nI (P 0 0)))] []) →
    V mX2_findDaySums E Ω 0 0 (SH u v) I L 22 [(0, .ref (Ω.1 + 58)), (1, .int (nI p)), (2, .int (nI j))] [] := by
  have h6 := hP.1.2
  intro n
  induction n with
  | zero =>
    intro j L hj h61 h62 hk
    have e : j = P 0 0 := by omega
    subst e
    refine V_iload_n 22 2 dX2_findDaySums_22 rfl ?_
    refine V_aload_n 23 0 dX2_findDaySums_23 rfl ?_
    refine V_getR 24 flX2_30 dX2_findDaySums_24 rfl ?_
    refine V_getI 27 flX2_34 dX2_findDaySums_27 rfl ?_
    rw [hR.1]
    refine V_cN_ge 30 60 dX2_findDaySums_30 (by decide) (by omega) (by omega) (fun c => ?_) (fun c => ?_)
    · exact hk L Fr.rf (fun _ _ => rfl) h62
    · omega
  | succ n ih =>
    intro j L hj h61 h62 hk
    have hle := k_heard_le P W (2 ^ p) j
    have hFAR : FAR = 1125899906842624 := rfl
    refine V_iload_n 22 2 dX2_findDaySums_22 rfl ?_
    refine V_aload_n 23 0 dX2_findDaySums_23 rfl ?_
    refine V_getR 24 flX2_30 dX2_findDaySums_24 rfl ?_
    refine V_getI 27 flX2_34 dX2_findDaySums_27 rfl ?_
    rw [hR.1]
    refine V_cN_ge 30 60 dX2_findDaySums_30 (by decide) (by omega) (by omega) (fun c => ?_) (fun c => ?_)
    · omega
    refine V_aload_n 33 0 dX2_findDaySums_33 rfl ?_
    refine V_getR 34 flX2_21 dX2_findDaySums_34 rfl ?_
    refine V_iload_n 37 1 dX2_findDaySums_37 rfl ?_
    refine V_bip 38 6 dX2_findDaySums_38 rfl ?_
    refine V_mul 40 dX2_findDaySums_40 ?_
    refine V_iload_n 41 2 dX2_findDaySums_41 rfl ?_
    refine V_add 42 dX2_findDaySums_42 ?_
    refine V_aload_n 43 0 dX2_findDaySums_43 rfl ?_
    refine V_getR 44 flX2_18 dX2_findDaySums_44 rfl ?_
    refine V_iload_n 47 2 dX2_findDaySums_47 rfl ?_
    refine V_lald 48 dX2_findDaySums_48 rfl (by omega) (by omega) ?_
    rw [h61 j (by omega)]
    refine V_ldc2N 49 18446744073708503040 klX2_74 dX2_findDaySums_49 rfl ?_
    refine V_andl 52 dX2_findDaySums_52 ?_
    rw [mask_and (by omega), show p * 6 + j = 6 * p + j by omega, show k_heard P W (2 ^ p) j / 1048576 * 1048576 = k_ds P W p j from rfl]
    refine V_last 53 dX2_findDaySums_53 rfl (by omega) (by omega) ?_
    refine V_inc 54 2 _ [(0, _), (1, _), (2, _)] dX2_findDaySums_54 rfl rfl rfl (by decide) rfl ?_
    refine V_goto 57 22 dX2_findDaySums_57 (by decide) ?_
    refine ih (j + 1) _ (by omega) (fun i hi => by rw [w_put_other _ (Or.inl (by decide))]; exact h61 i hi) (fun i hi => ?_) (fun L' g1 g2 g3 => hk L' ((Fr.rf.put (by decide) (by decide)).trans g1) (fun q hq => by rw [g2 q hq, w_put_other _ (Or.inr (by omega))]) g3)
    by_cases e : i = j
    · rw [e, w_put_same]
    · rw [w_put_other _ (Or.inr (by omega))]; exact h62 i (by omega)
theorem fd_out (hE : w_fit (d + 2) E) (hP : s_POK P) (hR : PRep 15 P I) (hA : ARep P I) (hWb : ∀ i, W i ≤ FAR) : ∀ (n p : Nat) (L : w_L), p + n = P 0 0 → WRep P W L → (∀ q i, q < p → i < P 0 0 → L 62 (6 * q + i) = k_ds P W q i) →
    (∀ L', Fr 60 63 L L' → (∀ q i, q < P 0 0 → i < P 0 0 → L' 62 (6 * q + i) = k_ds P W q i) → V mX2_findDaySums E Ω 0 0 (SH u v) I L' 66 [(0, .ref (Ω.1 + 58)), (1, .int (nI (P 0 0)))] []) →
    V mX2_findDaySums E Ω 0 0 (SH u v) I L 2 [(0, .ref (Ω.1 + 58)), (1, .int (nI p))] [] := by
  have h6 := hP.1.2
  intro n
  induction n with
  | zero =>
    intro p L hp hW hl hk
    have e : p = P 0 0 := by omega
    subst e
    refine V_iload_n 2 1 dX2_findDaySums_2 rfl ?_
    refine V_aload_n 3 0 dX2_findDaySums_3 rfl ?_
    refine V_getR 4 flX2_30 dX2_findDaySums_4 rfl ?_
    refine V_getI 7 flX2_34 dX2_findDaySums_7 rfl ?_
    rw [hR.1]
    refine V_cN_ge 10 66 dX2_findDaySums_10 (by decide) (by omega) (by omega) (fun c => ?_) (fun c => ?_)
    · exact hk L Fr.rf hl
    · omega
  | succ n ih =>
    intro p L hp hW hl hk
    refine V_iload_n 2 1 dX2_findDaySums_2 rfl ?_
    refine V_aload_n 3 0 dX2_findDaySums_3 rfl ?_
    refine V_getR 4 flX2_30 dX2_findDaySums_4 rfl ?_
    refine V_getI 7 flX2_34 dX2_findDaySums_7 rfl ?_
    rw [hR.1]
    refine V_cN_ge 10 66 dX2_findDaySums_10 (by decide) (by omega) (by omega) (fun c => ?_) (fun c => ?_)
    · omega
    refine V_aload_n 13 0 dX2_findDaySums_13 rfl ?_
    refine V_cst 14 1 dX2_findDaySums_14 rfl ?_
    refine V_iload_n 15 1 dX2_findDaySums_15 rfl ?_
    refine V_shl 16 dX2_findDaySums_16 (by omega) ?_
    rw [Nat.one_mul]
    refine V_vv 17 mvX2_53 dX2_findDaySums_17 ⟨_, _, _, rfl, rfl, rfl⟩ (w_fit.mono (by omega) hE) (c_throughDay (d := d) hP hR hA (p6 (by omega)) hW hWb) rfl (Nat.le_of_ble_eq_true rfl) ?_
    rintro _ _ L1 ⟨rfl, rfl, h1, h2⟩
    refine V_cst 20 0 dX2_findDaySums_20 rfl ?_
    refine V_istore_n 21 [(0, _), (1, _), (2, _)] dX2_findDaySums_21 (by decide) rfl ?_
    refine fd_in (d := d + 2) (W := W) hE hP hR (by omega) (P 0 0) 0 L1 (by omega) h1 (fun i hi => absurd hi (Nat.not_lt_zero _)) (fun L2 g1 g2 g3 => ?_)
    refine V_inc 60 1 _ [(0, _), (1, _), (2, _)] dX2_findDaySums_60 rfl rfl rfl (by decide) rfl ?_
    refine V_goto 63 2 dX2_findDaySums_63 (by decide) ?_
    refine V_sub [(0, _), (1, _)] [0, 1] rfl ?_
    have hf : Fr 60 63 L L2 := (h2.wide (by decide) (by decide)).trans (g1.wide (by decide) (by decide))
    refine ih (p + 1) L2 (by omega) (hW.fr hf (by decide)) (fun q i hq hi => ?_) (fun L' k1 k2 => hk L' (hf.trans k1) k2)
    by_cases e : q = p
    · rw [e]; exact g3 i hi
    · rw [g2 _ (by omega), h2 62 (by decide)]; exact hl q i (by omega) hi
theorem c_findDaySums {L : w_L} (hP : s_POK P) (hR : PRep 15 P I) (hA : ARep P I) (hW : WRep P W L) (hWb : ∀ i, W i ≤ FAR) : FnV Ω (d + 3) mX2_findDaySums [.ref (Ω.1 + 58)] (SH u v) I L (fun S' I' L' => S' = SH u v ∧ I = I' ∧ (∀ q i, q < P 0 0 → i < P 0 0 → L' 62 (6 * q + i) = k_ds P W q i) ∧ Fr 60 63 L L') := by
  refine FnR_of okX2_findDaySums (Nat.le_of_ble_eq_true rfl) fun l z => ?_
  show V _ _ _ _ _ _ _ _ 0 [(0, _)] []
  refine V_cst 0 0 dX2_findDaySums_0 rfl ?_
  refine V_istore_n 1 [(0, _), (1, _)] dX2_findDaySums_1 (by decide) rfl ?_
  refine fd_out (d := d) w_fit_r hP hR hA hWb (P 0 0) 0 L (by omega) hW (fun q i hq _ => absurd hq (Nat.not_lt_zero _)) (fun L' h1 h2 => ?_)
  exact V_ret 66 dX2_findDaySums_66 rfl ⟨rfl, rfl, h2, h1⟩
end
