section
variable {Ω : w_O} {d u v : Nat} {L : w_L} {E : w_E} {P : w_R} {I : w_I} {σ : w_Z}
theorem c_requireDays {a m : Nat} (h1 : 1 ≤ a) (h2 : a ≤ m) (hm : m < 1000) : FnV Ω d mX7_requireDays [.ref (Ω.1 + 0), .int (nI a), .int (nI m)] (SH u v) I L (fun S' I' L' => S' = SH u v ∧ I = I' ∧ L = L') := by
  refine FnR_of okX7_requireDays (Nat.le_of_ble_eq_true rfl) fun l z => ?_
  show V _ _ _ _ _ _ _ _ 0 [(0, _), (1, _), (2, _)] []
  refine V_iload_n 0 1 dX7_requireDays_0 rfl ?_
  refine V_cst 1 1 dX7_requireDays_1 rfl ?_
  refine V_cN_lt 2 10 dX7_requireDays_2 (by decide) (by omega) (by omega) (fun c => ?_) (fun c => ?_)
  · omega
  refine V_iload_n 5 1 dX7_requireDays_5 rfl ?_
  refine V_iload_n 6 2 dX7_requireDays_6 rfl ?_
  refine V_cN_le 7 21 dX7_requireDays_7 (by decide) (by omega) (by omega) (fun c1 => ?_) (fun c1 => ?_)
  · exact V_ret 21 dX7_requireDays_21 rfl ⟨rfl, rfl, rfl⟩
  · omega
theorem t_requireDays {a m : Nat} (h32 : a < 4294967296) (h : ¬ (1 ≤ a ∧ a ≤ m)) (hm : m < 1000) : FnT Ω d mX7_requireDays [.ref (Ω.1 + 0), .int (nI a), .int (nI m)] (SH u v) I L "java/lang/IllegalArgumentException" := by
  refine FnT_of okX7_requireDays (Nat.le_of_ble_eq_true rfl) fun l z => ?_
  have h1 : sgn 1 = 1 := rfl
  have hs : sgn a = if a < 2147483648 then (a : Int) else (a : Int) - 4294967296 := rfl
  have hsm : sgn m = (m : Int) := sgn_s (by omega)
  show V _ _ _ _ _ _ _ _ 0 [(0, _), (1, _), (2, _)] []
  refine V_iload_n 0 1 dX7_requireDays_0 rfl ?_
  refine V_cst 1 1 dX7_requireDays_1 rfl ?_
  refine V_cG_lt 2 10 dX7_requireDays_2 (by decide) (by omega) (by omega) (fun c => ?_) (fun c => ?_)
  · exact V_throwI 10 3 (tx := "not so many days") rfl clX7_81 ini_I (by decide) dX7_requireDays_10 dX7_requireDays_13 (Or.inr ⟨rfl, dX7_requireDays_14⟩) dX7_requireDays_17 dX7_requireDays_20
  refine V_iload_n 5 1 dX7_requireDays_5 rfl ?_
  refine V_iload_n 6 2 dX7_requireDays_6 rfl ?_
  refine V_cG_le 7 21 dX7_requireDays_7 (by decide) (by omega) (by omega) (fun c1 => ?_) (fun c1 => ?_)
  · exfalso
    rw [hs] at c c1
    rw [h1] at c
    rw [hsm] at c1
    split at c <;> split at c1 <;> omega
  · exact V_throwI 10 3 (tx := "not so many days") rfl clX7_81 ini_I (by decide) dX7_requireDays_10 dX7_requireDays_13 (Or.inr ⟨rfl, dX7_requireDays_14⟩) dX7_requireDays_17 dX7_requireDays_20
theorem c_requireSilent {a : Nat} (hR : PRep 15 P I) (hP : s_POK P) (ha : a < 2 ^ P 0 0) : FnV Ω (d + 1) mX7_requireSilent [.ref (Ω.1 + 0), .int (nI a)] (SH u v) I L (fun S' I' L' => S' = SH u v ∧ I = I' ∧ L = L') := by
  have h6 := hP.1.2
  have h64 : 2 ^ P 0 0 ≤ 64 := Nat.pow_le_pow_right (n := 2) (j := 6) (by decide) h6
  refine FnR_of okX7_requireSilent (Nat.le_of_ble_eq_true rfl) fun l z => ?_
  have hE : w_fit d (w_Er l (d + 1) 0 0 Ω (w_pv (fun S' I' L' => S' = SH u v ∧ I = I' ∧ L = L')) z) := w_fit_r
  show V _ _ _ _ _ _ _ _ 0 [(0, _), (1, _)] []
  refine V_iload_n 0 1 dX7_requireSilent_0 rfl ?_
  refine V_aload_n 1 0 dX7_requireSilent_1 rfl ?_
  refine V_getR 2 flX7_29 dX7_requireSilent_2 rfl ?_
  refine V_vi 5 mvX7_281 dX7_requireSilent_5 ⟨_, _, _, rfl, rfl, rfl⟩ (w_fit.mono (by omega) hE) (c_everybody (d := d) hP hR) rfl (Nat.le_of_ble_eq_true rfl) ?_
  rintro _ _ _ _ ⟨rfl, rfl, rfl, rfl⟩
  refine V_cst 8 4294967295 dX7_requireSilent_8 rfl ?_
  refine V_xor 9 dX7_requireSilent_9 ?_
  refine V_and 10 dX7_requireSilent_10 ?_
  have e0 : a &&& ((2 ^ P 0 0 - 1) ^^^ mI) = 0 := by
    apply Nat.eq_of_testBit_eq
    intro i
    rw [Nat.testBit_and, Nat.zero_testBit]
    by_cases e : i < 32
    · rw [tb_mI e, Nat.testBit_two_pow_sub_one]
      by_cases e2 : i < P 0 0
      · simp [e2]
      · have : a.testBit i = false := Nat.testBit_lt_two_pow (Nat.lt_of_lt_of_le ha (Nat.pow_le_pow_right (by decide) (by omega)))
        rw [this]; rfl
    · have : a.testBit i = false := Nat.testBit_lt_two_pow (Nat.lt_of_lt_of_le ha (Nat.pow_le_pow_right (by decide) (by omega)))
      rw [this]; rfl
  rw [show a &&& ((2 ^ P 0 0 - 1) ^^^ 4294967295) = 0 from e0]
  refine V_zN_eq 11 25 dX7_requireSilent_11 (by decide) (by omega) (fun c => ?_) (fun c => ?_)
  · exact V_ret 25 dX7_requireSilent_25 rfl ⟨rfl, rfl, rfl⟩
  · exact absurd rfl c
theorem t_requireSilent {a : Nat} (h32 : a < 4294967296) (hR : PRep 15 P I) (hP : s_POK P) (ha : ¬ a < 2 ^ P 0 0) : FnT Ω (d + 1) mX7_requireSilent [.ref (Ω.1 + 0), .int (nI a)] (SH u v) I L "java/lang/IllegalArgumentException" := by
  have h6 := hP.1.2
  refine FnT_of okX7_requireSilent (Nat.le_of_ble_eq_true rfl) fun l z => ?_
  have hE : w_fit d (w_Et l (d + 1) Ω (SH u v) I L "java/lang/IllegalArgumentException" z) := w_fit_t
  show V _ _ _ _ _ _ _ _ 0 [(0, _), (1, _)] []
  refine V_iload_n 0 1 dX7_requireSilent_0 rfl ?_
  refine V_aload_n 1 0 dX7_requireSilent_1 rfl ?_
  refine V_getR 2 flX7_29 dX7_requireSilent_2 rfl ?_
  refine V_vi 5 mvX7_281 dX7_requireSilent_5 ⟨_, _, _, rfl, rfl, rfl⟩ (w_fit.mono (by omega) hE) (c_everybody (d := d) hP hR) rfl (Nat.le_of_ble_eq_true rfl) ?_
  rintro _ _ _ _ ⟨rfl, rfl, rfl, rfl⟩
  refine V_cst 8 4294967295 dX7_requireSilent_8 rfl ?_
  refine V_xor 9 dX7_requireSilent_9 ?_
  refine V_and 10 dX7_requireSilent_10 ?_
  have hb : a &&& ((2 ^ P 0 0 - 1) ^^^ 4294967295) < 4294967296 := and_lt1 h32
  have e0 : a &&& ((2 ^ P 0 0 - 1) ^^^ mI) ≠ 0 := by
    intro e
    apply ha
    apply Nat.lt_pow_two_of_testBit
    intro i hi
    by_cases e3 : i < 32
    · have h1 : (a &&& ((2 ^ P 0 0 - 1) ^^^ mI)).testBit i = false := by rw [e, Nat.zero_testBit]
      rw [Nat.testBit_and, tb_mI e3, Nat.testBit_two_pow_sub_one] at h1
      simpa [show ¬ i < P 0 0 by omega] using h1
    · exact Nat.testBit_lt_two_pow (Nat.lt_of_lt_of_le h32 (Nat.pow_le_pow_right (n := 2) (i := 32) (by decide) (by omega)))
  refine V_zN_eq 11 25 dX7_requireSilent_11 (by decide) (by omega) (fun c => ?_) (fun c => ?_)
  · exact absurd c e0
  · exact V_throwI 14 3 (tx := "silent people that there are not") rfl clX7_81 ini_I (by decide) dX7_requireSilent_14 dX7_requireSilent_17 (Or.inr ⟨rfl, dX7_requireSilent_18⟩) dX7_requireSilent_21 dX7_requireSilent_24
/-! the plain questions -/
theorem c_faultQ (hI : CInv u v σ I) : FnI Ω d mX7_fault [.ref (Ω.1 + 0)] (SH u v) I L (fun r S' I' L' => r = nI (σ 3 2 0) ∧ S' = SH u v ∧ I = I' ∧ L = L') := by
  obtain ⟨-, -, -, -, -, hM, -⟩ := hI
  refine FnR_of okX7_fault (Nat.le_of_ble_eq_true rfl) fun l z => ?_
  show V _ _ _ _ _ _ _ _ 0 [(0, _)] []
  refine V_aload_n 0 0 dX7_fault_0 rfl ?_
  refine V_getI 1 flX7_22 dX7_fault_1 rfl ?_
  exact V_iret 4 dX7_fault_4 rfl ⟨by rw [hM.1], rfl, rfl, rfl⟩
def q_count (σ : w_Z) (a : Nat) : Nat := [σ 0 0 0, σ 0 2 0, σ 0 6 0, σ 1 0 0, σ 2 0 0, σ 2 1 0, σ 3 0 0, σ 3 3 0, σ 3 4 0].getD a 0
theorem tab_out {a m : Nat} (h32 : a < 4294967296) (h : m < a) (hm : m < 1000) : (nI a).toInt < 0 ∨ (m : Int) < (nI a).toInt := by
  rw [n_toInt h32]
  unfold sgn
  split <;> omega
theorem c_count {a : Nat} (hI : CInv u v σ I) (ha : a < 9) : FnI Ω d mX7_count [.ref (Ω.1 + 0), .int (nI a)] (SH u v) I L (fun r S' I' L' => r = nI (q_count σ a) ∧ S' = SH u v ∧ I = I' ∧ L = L') := by
  obtain ⟨-, ⟨p1, p2, -, -⟩, ⟨-, y2⟩, hC, hT, hM, -⟩ := hI
  refine FnR_of okX7_count (Nat.le_of_ble_eq_true rfl) fun l z => ?_
  show V _ _ _ _ _ _ _ _ 0 [(0, _), (1, _)] []
  refine V_iload_n 0 1 dX7_count_0 rfl ?_
  rcases (show a = 0 ∨ a = 1 ∨ a = 2 ∨ a = 3 ∨ a = 4 ∨ a = 5 ∨ a = 6 ∨ a = 7 ∨ a = 8 by omega) with rfl | rfl | rfl | rfl | rfl | rfl | rfl | rfl | rfl
  · refine V_tabIn 1 52 dX7_count_1 (by decide) (by decide) rfl (by decide) ?_
    refine V_aload_n 52 0 dX7_count_52 rfl ?_
    refine V_getR 53 flX7_29 dX7_count_53 rfl ?_
    refine V_getI 56 flX7_122 dX7_count_56 rfl ?_
    exact V_iret 59 dX7_count_59 rfl ⟨by rw [p2.1]; rfl, rfl, rfl, rfl⟩
  · refine V_tabIn 1 60 dX7_count_1 (by decide) (by decide) rfl (by decide) ?_
    refine V_aload_n 60 0 dX7_count_60 rfl ?_
    refine V_getR 61 flX7_29 dX7_count_61 rfl ?_
    refine V_getI 64 flX7_125 dX7_count_64 rfl ?_
    exact V_iret 67 dX7_count_67 rfl ⟨by rw [p2.2.2.1]; rfl, rfl, rfl, rfl⟩
  · refine V_tabIn 1 68 dX7_count_1 (by decide) (by decide) rfl (by decide) ?_
    refine V_aload_n 68 0 dX7_count_68 rfl ?_
    refine V_getR 69 flX7_29 dX7_count_69 rfl ?_
    refine V_getI 72 flX7_128 dX7_count_72 rfl ?_
    exact V_iret 75 dX7_count_75 rfl ⟨by rw [p2.2.2.2.2.1]; rfl, rfl, rfl, rfl⟩
  · refine V_tabIn 1 76 dX7_count_1 (by decide) (by decide) rfl (by decide) ?_
    refine V_aload_n 76 0 dX7_count_76 rfl ?_
    refine V_getR 77 flX7_36 dX7_count_77 rfl ?_
    refine V_getI 80 flX7_103 dX7_count_80 rfl ?_
    exact V_iret 83 dX7_count_83 rfl ⟨by rw [y2.1]; rfl, rfl, rfl, rfl⟩
  · refine V_tabIn 1 84 dX7_count_1 (by decide) (by decide) rfl (by decide) ?_
    refine V_aload_n 84 0 dX7_count_84 rfl ?_
    refine V_getR 85 flX7_45 dX7_count_85 rfl ?_
    refine V_getI 88 flX7_131 dX7_count_88 rfl ?_
    exact V_iret 91 dX7_count_91 rfl ⟨by rw [show I 34 1 = σ 2 0 0 from hC.at 0 0 (by decide)]; rfl, rfl, rfl, rfl⟩
  · refine V_tabIn 1 92 dX7_count_1 (by decide) (by decide) rfl (by decide) ?_
    refine V_aload_n 92 0 dX7_count_92 rfl ?_
    refine V_getR 93 flX7_45 dX7_count_93 rfl ?_
    refine V_getI 96 flX7_134 dX7_count_96 rfl ?_
    exact V_iret 99 dX7_count_99 rfl ⟨by rw [show I 34 2 = σ 2 1 0 from hC.at 1 0 (by decide)]; rfl, rfl, rfl, rfl⟩
  · refine V_tabIn 1 100 dX7_count_1 (by decide) (by decide) rfl (by decide) ?_
    refine V_aload_n 100 0 dX7_count_100 rfl ?_
    refine V_getI 101 flX7_74 dX7_count_101 rfl ?_
    exact V_iret 104 dX7_count_104 rfl ⟨by rw [hT.1]; rfl, rfl, rfl, rfl⟩
  · refine V_tabIn 1 105 dX7_count_1 (by decide) (by decide) rfl (by decide) ?_
    refine V_aload_n 105 0 dX7_count_105 rfl ?_
    refine V_getI 106 flX7_93 dX7_count_106 rfl ?_
    exact V_iret 109 dX7_count_109 rfl ⟨by rw [hM.2.1]; rfl, rfl, rfl, rfl⟩
  · refine V_tabIn 1 110 dX7_count_1 (by decide) (by decide) rfl (by decide) ?_
    refine V_aload_n 110 0 dX7_count_110 rfl ?_
    refine V_getI 111 flX7_137 dX7_count_111 rfl ?_
    exact V_iret 114 dX7_count_114 rfl ⟨by rw [hM.2.2]; rfl, rfl, rfl, rfl⟩
theorem t_count {a : Nat} (h32 : a < 4294967296) (ha : ¬ a < 9) : FnT Ω d mX7_count [.ref (Ω.1 + 0), .int (nI a)] (SH u v) I L "java/util/NoSuchElementException" := by
  refine FnT_of okX7_count (Nat.le_of_ble_eq_true rfl) fun l z => ?_
  show V _ _ _ _ _ _ _ _ 0 [(0, _), (1, _)] []
  refine V_iload_n 0 1 dX7_count_0 rfl ?_
  refine V_tabOut 1 115 dX7_count_1 (tab_out (m := 8) h32 (by omega) (by decide)) (by decide) ?_
  exact V_throwN 115 2 (tx := "no such count") rfl clX7_140 ini_N (by decide) dX7_count_115 dX7_count_118 (Or.inl ⟨rfl, dX7_count_119⟩) dX7_count_121 dX7_count_124
theorem c_price {a : Nat} (hI : CInv u v σ I) (ha : a < σ 0 0 0) : FnI Ω (d + 1) mX7_price [.ref (Ω.1 + 0), .int (nI a)] (SH u v) I L (fun r S' I' L' => r = nI (σ 0 1 a) ∧ S' = SH u v ∧ I = I' ∧ L = L') := by
  obtain ⟨-, ⟨p1, p2, -, -⟩, -⟩ := hI
  have h6 := p1.1.2
  refine FnR_of okX7_price (Nat.le_of_ble_eq_true rfl) fun l z => ?_
  have hE : w_fit d (w_Er l (d + 1) 0 0 Ω (w_pi (fun r S' I' L' => r = nI (σ 0 1 a) ∧ S' = SH u v ∧ I = I' ∧ L = L')) z) := w_fit_r
  show V _ _ _ _ _ _ _ _ 0 [(0, _), (1, _)] []
  refine V_aload_n 0 0 dX7_price_0 rfl ?_
  refine V_iload_n 1 1 dX7_price_1 rfl ?_
  refine V_vv 2 mvX7_145 dX7_price_2 ⟨_, _, _, rfl, rfl, rfl⟩ (w_fit.mono (by omega) hE) (c_requirePerson (d := d) p2 p1 ha) rfl (Nat.le_of_ble_eq_true rfl) ?_
  rintro _ _ _ ⟨rfl, rfl, rfl⟩
  refine V_aload_n 5 0 dX7_price_5 rfl ?_
  refine V_getR 6 flX7_29 dX7_price_6 rfl ?_
  refine V_getR 9 flX7_148 dX7_price_9 rfl ?_
  refine V_iload_n 12 1 dX7_price_12 rfl ?_
  refine V_iald 13 dX7_price_13 rfl (by omega) (by omega) ?_
  exact V_iret 14 dX7_price_14 rfl ⟨by rw [show I 16 a = σ 0 1 a from p2.2.1 a (by omega)], rfl, rfl, rfl⟩
theorem t_price {a : Nat} (h32 : a < 4294967296) (hI : CInv u v σ I) (ha : ¬ a < σ 0 0 0) : FnT Ω (d + 1) mX7_price [.ref (Ω.1 + 0), .int (nI a)] (SH u v) I L "java/util/NoSuchElementException" := by
  obtain ⟨-, ⟨p1, p2, -, -⟩, -⟩ := hI
  refine FnT_of okX7_price (Nat.le_of_ble_eq_true rfl) fun l z => ?_
  show V _ _ _ _ _ _ _ _ 0 [(0, _), (1, _)] []
  refine V_aload_n 0 0 dX7_price_0 rfl ?_
  refine V_iload_n 1 1 dX7_price_1 rfl ?_
  exact V_thrown 2 mvX7_145 dX7_price_2 ⟨_, _, _, rfl, rfl, rfl⟩ (t_requirePerson (d := d) h32 p2 p1 ha) rfl (Nat.le_of_ble_eq_true rfl)
theorem c_meeting {a b : Nat} (hI : CInv u v σ I) (ha : a < σ 0 2 0) (hb : b < 3) : FnI Ω (d + 1) mX7_meeting [.ref (Ω.1 + 0), .int (nI a), .int (nI b)] (SH u v) I L (fun r S' I' L' => r = nI (σ 0 (3 + b) a) ∧ S' = SH u v ∧ I = I' ∧ L = L') := by
  obtain ⟨-, ⟨p1, p2, -, -⟩, -⟩ := hI
  have h12 := p1.2.2.1
  obtain ⟨m1, m2, m3⟩ := p2.2.2.2.1 a ha
  refine FnR_of okX7_meeting (Nat.le_of_ble_eq_true rfl) fun l z => ?_
  have hE : w_fit d (w_Er l (d + 1) 0 0 Ω (w_pi (fun r S' I' L' => r = nI (σ 0 (3 + b) a) ∧ S' = SH u v ∧ I = I' ∧ L = L')) z) := w_fit_r
  show V _ _ _ _ _ _ _ _ 0 [(0, _), (1, _), (2, _)] []
  refine V_aload_n 0 0 dX7_meeting_0 rfl ?_
  refine V_iload_n 1 1 dX7_meeting_1 rfl ?_
  refine V_vv 2 mvX7_151 dX7_meeting_2 ⟨_, _, _, rfl, rfl, rfl⟩ (w_fit.mono (by omega) hE) (c_requireMeeting (d := d) p2 p1 ha) rfl (Nat.le_of_ble_eq_true rfl) ?_
  rintro _ _ _ ⟨rfl, rfl, rfl⟩
  refine V_iload_n 5 2 dX7_meeting_5 rfl ?_
  rcases (show b = 0 ∨ b = 1 ∨ b = 2 by omega) with rfl | rfl | rfl
  · refine V_tabIn 6 32 dX7_meeting_6 (by decide) (by decide) rfl (by decide) ?_
    refine V_aload_n 32 0 dX7_meeting_32 rfl ?_
    refine V_getR 33 flX7_29 dX7_meeting_33 rfl ?_
    refine V_getR 36 flX7_154 dX7_meeting_36 rfl ?_
    refine V_iload_n 39 1 dX7_meeting_39 rfl ?_
    refine V_iald 40 dX7_meeting_40 rfl (by omega) (by omega) ?_
    exact V_iret 41 dX7_meeting_41 rfl ⟨by rw [show I 17 a = _ from m1], rfl, rfl, rfl⟩
  · refine V_tabIn 6 42 dX7_meeting_6 (by decide) (by decide) rfl (by decide) ?_
    refine V_aload_n 42 0 dX7_meeting_42 rfl ?_
    refine V_getR 43 flX7_29 dX7_meeting_43 rfl ?_
    refine V_getR 46 flX7_157 dX7_meeting_46 rfl ?_
    refine V_iload_n 49 1 dX7_meeting_49 rfl ?_
    refine V_iald 50 dX7_meeting_50 rfl (by omega) (by omega) ?_
    exact V_iret 51 dX7_meeting_51 rfl ⟨by rw [show I 18 a = _ from m2], rfl, rfl, rfl⟩
  · refine V_tabIn 6 52 dX7_meeting_6 (by decide) (by decide) rfl (by decide) ?_
    refine V_aload_n 52 0 dX7_meeting_52 rfl ?_
    refine V_getR 53 flX7_29 dX7_meeting_53 rfl ?_
    refine V_getR 56 flX7_160 dX7_meeting_56 rfl ?_
    refine V_iload_n 59 1 dX7_meeting_59 rfl ?_
    refine V_iald 60 dX7_meeting_60 rfl (by omega) (by omega) ?_
    exact V_iret 61 dX7_meeting_61 rfl ⟨by rw [show I 19 a = _ from m3], rfl, rfl, rfl⟩
theorem t_meeting {a b : Nat} (h32 : a < 4294967296) (hb32 : b < 4294967296) (hI : CInv u v σ I) (ha : ¬ (a < σ 0 2 0 ∧ b < 3)) : FnT Ω (d + 1) mX7_meeting [.ref (Ω.1 + 0), .int (nI a), .int (nI b)] (SH u v) I L "java/util/NoSuchElementException" := by
  obtain ⟨-, ⟨p1, p2, -, -⟩, -⟩ := hI
  refine FnT_of okX7_meeting (Nat.le_of_ble_eq_true rfl) fun l z => ?_
  have hE : w_fit d (w_Et l (d + 1) Ω (SH u v) I L "java/util/NoSuchElementException" z) := w_fit_t
  show V _ _ _ _ _ _ _ _ 0 [(0, _), (1, _), (2, _)] []
  refine V_aload_n 0 0 dX7_meeting_0 rfl ?_
  refine V_iload_n 1 1 dX7_meeting_1 rfl ?_
  by_cases h : a < σ 0 2 0
  · refine V_vv 2 mvX7_151 dX7_meeting_2 ⟨_, _, _, rfl, rfl, rfl⟩ (w_fit.mono (by omega) hE) (c_requireMeeting (d := d) p2 p1 h) rfl (Nat.le_of_ble_eq_true rfl) ?_
    rintro _ _ _ ⟨rfl, rfl, rfl⟩
    refine V_iload_n 5 2 dX7_meeting_5 rfl ?_
    refine V_tabOut 6 62 dX7_meeting_6 (tab_out (m := 2) hb32 (by omega) (by decide)) (by decide) ?_
    exact V_throwN 62 2 (tx := "no such thing of a meeting") rfl clX7_140 ini_N (by decide) dX7_meeting_62 dX7_meeting_65 (Or.inl ⟨rfl, dX7_meeting_66⟩) dX7_meeting_68 dX7_meeting_71
  · exact V_thrown 2 mvX7_151 dX7_meeting_2 ⟨_, _, _, rfl, rfl, rfl⟩ (t_requireMeeting (d := d) h32 p2 p1 h) rfl (Nat.le_of_ble_eq_true rfl)
def q_prom (σ : w_Z) (a b : Nat) : Nat := [σ 0 7 a, σ 0 8 a, σ 0 9 a, σ 0 10 a, σ 0 11 a, q_st (σ 2) a, σ 2 7 a, σ 2 8 a].getD b 0
theorem c_promise {a b : Nat} (hI : CInv u v σ I) (ha : a < σ 0 6 0) (hb : b < 8) : FnI Ω (d + 1) mX7_promise [.ref (Ω.1 + 0), .int (nI a), .int (nI b)] (SH u v) I L (fun r S' I' L' => r = nI (q_prom σ a b) ∧ S' = SH u v ∧ I = I' ∧ L = L') := by
  obtain ⟨-, ⟨p1, p2, -, -⟩, -, hC, -⟩ := hI
  have h12 := p1.2.2.2.2.1
  obtain ⟨m1, m2, m3, m4, m5⟩ := p2.2.2.2.2.2 a ha
  refine FnR_of okX7_promise (Nat.le_of_ble_eq_true rfl) fun l z => ?_
  have hE : w_fit d (w_Er l (d + 1) 0 0 Ω (w_pi (fun r S' I' L' => r = nI (q_prom σ a b) ∧ S' = SH u v ∧ I = I' ∧ L = L')) z) := w_fit_r
  have e7 : I 35 a = σ 2 7 a := by rw [← hC.at 7 a (by decide)]; show I 35 a = if a < 12 then I 35 a else 0; rw [if_pos (by omega)]
  have e8 : I 36 a = σ 2 8 a := by rw [← hC.at 8 a (by decide)]; show I 36 a = if a < 12 then I 36 a else 0; rw [if_pos (by omega)]
  show V _ _ _ _ _ _ _ _ 0 [(0, _), (1, _), (2, _)] []
  refine V_aload_n 0 0 dX7_promise_0 rfl ?_
  refine V_iload_n 1 1 dX7_promise_1 rfl ?_
  refine V_vv 2 mvX7_165 dX7_promise_2 ⟨_, _, _, rfl, rfl, rfl⟩ (w_fit.mono (by omega) hE) (c_requirePromise (d := d) p2 p1 ha) rfl (Nat.le_of_ble_eq_true rfl) ?_
  rintro _ _ _ ⟨rfl, rfl, rfl⟩
  refine V_iload_n 5 2 dX7_promise_5 rfl ?_
  rcases (show b = 0 ∨ b = 1 ∨ b = 2 ∨ b = 3 ∨ b = 4 ∨ b = 5 ∨ b = 6 ∨ b = 7 by omega) with rfl | rfl | rfl | rfl | rfl | rfl | rfl | rfl
  · refine V_tabIn 6 52 dX7_promise_6 (by decide) (by decide) rfl (by decide) ?_
    refine V_aload_n 52 0 dX7_promise_52 rfl ?_
    refine V_getR 53 flX7_29 dX7_promise_53 rfl ?_
    refine V_getR 56 flX7_168 dX7_promise_56 rfl ?_
    refine V_iload_n 59 1 dX7_promise_59 rfl ?_
    refine V_iald 60 dX7_promise_60 rfl (by omega) (by omega) ?_
    exact V_iret 61 dX7_promise_61 rfl ⟨by rw [show I 20 a = _ from m1]; rfl, rfl, rfl, rfl⟩
  · refine V_tabIn 6 62 dX7_promise_6 (by decide) (by decide) rfl (by decide) ?_
    refine V_aload_n 62 0 dX7_promise_62 rfl ?_
    refine V_getR 63 flX7_29 dX7_promise_63 rfl ?_
    refine V_getR 66 flX7_171 dX7_promise_66 rfl ?_
    refine V_iload_n 69 1 dX7_promise_69 rfl ?_
    refine V_iald 70 dX7_promise_70 rfl (by omega) (by omega) ?_
    exact V_iret 71 dX7_promise_71 rfl ⟨by rw [show I 21 a = _ from m2]; rfl, rfl, rfl, rfl⟩
  · refine V_tabIn 6 72 dX7_promise_6 (by decide) (by decide) rfl (by decide) ?_
    refine V_aload_n 72 0 dX7_promise_72 rfl ?_
    refine V_getR 73 flX7_29 dX7_promise_73 rfl ?_
    refine V_getR 76 flX7_174 dX7_promise_76 rfl ?_
    refine V_iload_n 79 1 dX7_promise_79 rfl ?_
    refine V_iald 80 dX7_promise_80 rfl (by omega) (by omega) ?_
    exact V_iret 81 dX7_promise_81 rfl ⟨by rw [show I 22 a = _ from m3]; rfl, rfl, rfl, rfl⟩
  · refine V_tabIn 6 82 dX7_promise_6 (by decide) (by decide) rfl (by decide) ?_
    refine V_aload_n 82 0 dX7_promise_82 rfl ?_
    refine V_getR 83 flX7_29 dX7_promise_83 rfl ?_
    refine V_getR 86 flX7_177 dX7_promise_86 rfl ?_
    refine V_iload_n 89 1 dX7_promise_89 rfl ?_
    refine V_iald 90 dX7_promise_90 rfl (by omega) (by omega) ?_
    exact V_iret 91 dX7_promise_91 rfl ⟨by rw [show I 23 a = _ from m4]; rfl, rfl, rfl, rfl⟩
  · refine V_tabIn 6 92 dX7_promise_6 (by decide) (by decide) rfl (by decide) ?_
    refine V_aload_n 92 0 dX7_promise_92 rfl ?_
    refine V_getR 93 flX7_29 dX7_promise_93 rfl ?_
    refine V_getR 96 flX7_180 dX7_promise_96 rfl ?_
    refine V_iload_n 99 1 dX7_promise_99 rfl ?_
    refine V_iald 100 dX7_promise_100 rfl (by omega) (by omega) ?_
    exact V_iret 101 dX7_promise_101 rfl ⟨by rw [show I 24 a = _ from m5]; rfl, rfl, rfl, rfl⟩
  · refine V_tabIn 6 102 dX7_promise_6 (by decide) (by decide) rfl (by decide) ?_
    refine V_aload_n 102 0 dX7_promise_102 rfl ?_
    refine V_getR 103 flX7_45 dX7_promise_103 rfl ?_
    refine V_iload_n 106 1 dX7_promise_106 rfl ?_
    refine V_vi 107 mvX7_183 dX7_promise_107 ⟨_, _, _, rfl, rfl, rfl⟩ (w_fit.mono (by omega) hE) (c_stateOf_34 (d := d) (p := a) (by omega) hC.ok) rfl (Nat.le_of_ble_eq_true rfl) ?_
    rintro _ _ _ _ ⟨rfl, rfl, rfl, rfl⟩
    rw [q_st_eq hC]
    exact V_iret 110 dX7_promise_110 rfl ⟨rfl, rfl, rfl, rfl⟩
  · refine V_tabIn 6 111 dX7_promise_6 (by decide) (by decide) rfl (by decide) ?_
    refine V_aload_n 111 0 dX7_promise_111 rfl ?_
    refine V_getR 112 flX7_45 dX7_promise_112 rfl ?_
    refine V_getR 115 flX7_186 dX7_promise_115 rfl ?_
    refine V_iload_n 118 1 dX7_promise_118 rfl ?_
    refine V_iald 119 dX7_promise_119 rfl (by omega) (by omega) ?_
    exact V_iret 120 dX7_promise_120 rfl ⟨by rw [e7]; rfl, rfl, rfl, rfl⟩
  · refine V_tabIn 6 121 dX7_promise_6 (by decide) (by decide) rfl (by decide) ?_
    refine V_aload_n 121 0 dX7_promise_121 rfl ?_
    refine V_getR 122 flX7_45 dX7_promise_122 rfl ?_
    refine V_getR 125 flX7_189 dX7_promise_125 rfl ?_
    refine V_iload_n 128 1 dX7_promise_128 rfl ?_
    refine V_iald 129 dX7_promise_129 rfl (by omega) (by omega) ?_
    exact V_iret 130 dX7_promise_130 rfl ⟨by rw [e8]; rfl, rfl, rfl, rfl⟩
theorem t_promise {a b : Nat} (h32 : a < 4294967296) (hb32 : b < 4294967296) (hI : CInv u v σ I) (ha : ¬ (a < σ 0 6 0 ∧ b < 8)) : FnT Ω (d + 1) mX7_promise [.ref (Ω.1 + 0), .int (nI a), .int (nI b)] (SH u v) I L "java/util/NoSuchElementException" := by
  obtain ⟨-, ⟨p1, p2, -, -⟩, -⟩ := hI
  refine FnT_of okX7_promise (Nat.le_of_ble_eq_true rfl) fun l z => ?_
  have hE : w_fit d (w_Et l (d + 1) Ω (SH u v) I L "java/util/NoSuchElementException" z) := w_fit_t
  show V _ _ _ _ _ _ _ _ 0 [(0, _), (1, _), (2, _)] []
  refine V_aload_n 0 0 dX7_promise_0 rfl ?_
  refine V_iload_n 1 1 dX7_promise_1 rfl ?_
  by_cases h : a < σ 0 6 0
  · refine V_vv 2 mvX7_165 dX7_promise_2 ⟨_, _, _, rfl, rfl, rfl⟩ (w_fit.mono (by omega) hE) (c_requirePromise (d := d) p2 p1 h) rfl (Nat.le_of_ble_eq_true rfl) ?_
    rintro _ _ _ ⟨rfl, rfl, rfl⟩
    refine V_iload_n 5 2 dX7_promise_5 rfl ?_
    refine V_tabOut 6 131 dX7_promise_6 (tab_out (m := 7) hb32 (by omega) (by decide)) (by decide) ?_
    exact V_throwN 131 2 (tx := "no such thing of a promise") rfl clX7_140 ini_N (by decide) dX7_promise_131 dX7_promise_134 (Or.inl ⟨rfl, dX7_promise_135⟩) dX7_promise_137 dX7_promise_140
  · exact V_thrown 2 mvX7_165 dX7_promise_2 ⟨_, _, _, rfl, rfl, rfl⟩ (t_requirePromise (d := d) h32 p2 p1 h) rfl (Nat.le_of_ble_eq_true rfl)
theorem c_kept {a : Nat} (hI : CInv u v σ I) (ha : a < σ 0 2 0) (hk : σ 3 8 0 = 1) : FnI Ω (d + 1) mX7_kept [.ref (Ω.1 + 0), .int (nI a)] (SH u v) I L (fun r S' I' L' => r = nI (σ 3 9 a) ∧ S' = SH u v ∧ I = I' ∧ L = L') := by
  obtain ⟨-, ⟨p1, p2, -, -⟩, -, -, -, -, ⟨r1, r2⟩, -⟩ := hI
  have h12 := p1.2.2.1
  have hrow : ∀ j, j < σ 0 2 0 → I 62 j = σ 3 9 j := by
    rcases r2 with h | ⟨-, h⟩
    · omega
    · exact h
  refine FnR_of okX7_kept (Nat.le_of_ble_eq_true rfl) fun l z => ?_
  have hE : w_fit d (w_Er l (d + 1) 0 0 Ω (w_pi (fun r S' I' L' => r = nI (σ 3 9 a) ∧ S' = SH u v ∧ I = I' ∧ L = L')) z) := w_fit_r
  show V _ _ _ _ _ _ _ _ 0 [(0, _), (1, _)] []
  refine V_aload_n 0 0 dX7_kept_0 rfl ?_
  refine V_iload_n 1 1 dX7_kept_1 rfl ?_
  refine V_vv 2 mvX7_151 dX7_kept_2 ⟨_, _, _, rfl, rfl, rfl⟩ (w_fit.mono (by omega) hE) (c_requireMeeting (d := d) p2 p1 ha) rfl (Nat.le_of_ble_eq_true rfl) ?_
  rintro _ _ _ ⟨rfl, rfl, rfl⟩
  refine V_aload_n 5 0 dX7_kept_5 rfl ?_
  refine V_getI 6 flX7_109 dX7_kept_6 rfl ?_
  rw [r1, hk]
  refine V_zN_ne 9 22 dX7_kept_9 (by decide) (by omega) (fun c => ?_) (fun c => ?_)
  · refine V_aload_n 22 0 dX7_kept_22 rfl ?_
    refine V_getR 23 flX7_70 dX7_kept_23 rfl ?_
    refine V_iload_n 26 1 dX7_kept_26 rfl ?_
    refine V_iald 27 dX7_kept_27 rfl (by omega) (by omega) ?_
    exact V_iret 28 dX7_kept_28 rfl ⟨by rw [hrow a ha], rfl, rfl, rfl⟩
  · exact absurd c (by decide)
theorem t_kept {a : Nat} (h32 : a < 4294967296) (hI : CInv u v σ I) (ha : ¬ (a < σ 0 2 0 ∧ σ 3 8 0 = 1)) : FnT Ω (d + 1) mX7_kept [.ref (Ω.1 + 0), .int (nI a)] (SH u v) I L "java/util/NoSuchElementException" := by
  obtain ⟨-, ⟨p1, p2, -, -⟩, -, -, -, -, ⟨r1, r2⟩, -⟩ := hI
  refine FnT_of okX7_kept (Nat.le_of_ble_eq_true rfl) fun l z => ?_
  have hE : w_fit d (w_Et l (d + 1) Ω (SH u v) I L "java/util/NoSuchElementException" z) := w_fit_t
  show V _ _ _ _ _ _ _ _ 0 [(0, _), (1, _)] []
  refine V_aload_n 0 0 dX7_kept_0 rfl ?_
  refine V_iload_n 1 1 dX7_kept_1 rfl ?_
  by_cases h : a < σ 0 2 0
  · refine V_vv 2 mvX7_151 dX7_kept_2 ⟨_, _, _, rfl, rfl, rfl⟩ (w_fit.mono (by omega) hE) (c_requireMeeting (d := d) p2 p1 h) rfl (Nat.le_of_ble_eq_true rfl) ?_
    rintro _ _ _ ⟨rfl, rfl, rfl⟩
    have h0 : σ 3 8 0 = 0 := by
      rcases r2 with e | ⟨e, -⟩
      · exact e
      · exact absurd ⟨h, e⟩ ha
    refine V_aload_n 5 0 dX7_kept_5 rfl ?_
    refine V_getI 6 flX7_109 dX7_kept_6 rfl ?_
    rw [r1, h0]
    refine V_zN_ne 9 22 dX7_kept_9 (by decide) (by omega) (fun c => ?_) (fun c => ?_)
    · exact absurd rfl c
    · exact V_throwN 12 2 (tx := "no row is kept") rfl clX7_140 ini_N (by decide) dX7_kept_12 dX7_kept_15 (Or.inl ⟨rfl, dX7_kept_16⟩) dX7_kept_18 dX7_kept_21
  · exact V_thrown 2 mvX7_151 dX7_kept_2 ⟨_, _, _, rfl, rfl, rfl⟩ (t_requireMeeting (d := d) h32 p2 p1 h) rfl (Nat.le_of_ble_eq_true rfl)
end
