section
variable {Ω : w_O} {d u v : Nat} {L : w_L} {E : w_E} {P Y : w_R} {I : w_I} {σ : w_Z}
theorem bit01 (X w : Nat) : (X / 2 ^ w) &&& 1 = if X.testBit w then 1 else 0 := by
  have h := bitN_iff X w
  have h2 : (X / 2 ^ w) &&& 1 < 2 := and_lt2 (by decide)
  unfold bitN at h
  cases e : X.testBit w
  · rw [e] at h
    rw [if_neg (by decide)]
    rcases (show (X / 2 ^ w) &&& 1 = 0 ∨ (X / 2 ^ w) &&& 1 = 1 by omega) with q | q
    · exact q
    · exact absurd (h.mp (by omega)) (by decide)
  · rw [e] at h
    rw [if_pos rfl]
    have := h.mpr rfl
    omega
theorem y_m_sum (X m : Nat) : y_m P X m = if ((X / 2 ^ P 3 m) &&& 1) + ((X / 2 ^ P 4 m) &&& 1) = 1 then X ||| (2 ^ P 3 m ||| 2 ^ P 4 m) else X := by
  rw [bit01, bit01]
  unfold y_m s_both
  have key : ∀ w, (X &&& (2 ^ P 3 m ||| 2 ^ P 4 m)).testBit w = (X.testBit w && (decide (P 3 m = w) || decide (P 4 m = w))) := fun w => by rw [Nat.testBit_and, Nat.testBit_or, tb_p, tb_p]
  cases h3 : X.testBit (P 3 m) <;> cases h4 : X.testBit (P 4 m)
  · have hz : X &&& (2 ^ P 3 m ||| 2 ^ P 4 m) = 0 := by
      apply Nat.eq_of_testBit_eq
      intro w
      rw [key, Nat.zero_testBit]
      by_cases e3 : P 3 m = w
      · rw [← e3, h3]; rfl
      · by_cases e4 : P 4 m = w
        · rw [← e4, h4]; rfl
        · simp [e3, e4]
    rw [if_neg (fun h => h hz)]
    rfl
  · have : X &&& (2 ^ P 3 m ||| 2 ^ P 4 m) ≠ 0 := fun e => by
      have := key (P 4 m)
      rw [e, h4, Nat.zero_testBit] at this
      simp at this
    rw [if_pos this]; rfl
  · have : X &&& (2 ^ P 3 m ||| 2 ^ P 4 m) ≠ 0 := fun e => by
      have := key (P 3 m)
      rw [e, h3, Nat.zero_testBit] at this
      simp at this
    rw [if_pos this]; rfl
  · have : X &&& (2 ^ P 3 m ||| 2 ^ P 4 m) ≠ 0 := fun e => by
      have := key (P 3 m)
      rw [e, h3, Nat.zero_testBit] at this
      simp at this
    rw [if_pos this, if_neg (by decide)]
    apply Nat.eq_of_testBit_eq
    intro w
    rw [Nat.testBit_or, Nat.testBit_or, tb_p, tb_p]
    by_cases e3 : P 3 m = w
    · rw [← e3, h3]; rfl
    · by_cases e4 : P 4 m = w
      · rw [← e4, h4]; rfl
      · simp [e3, e4]
theorem my_in {p dd hr x h : Nat} (hP : s_POK P) (hMP : MP P I) (hh : h < 12) : ∀ (n j X : Nat), j + n = P 2 0 → X < 64 →
    (∀ y, V mX8_mayOf E Ω 0 0 (SH u v) I L 168 [(0, .ref (Ω.1 + 63)), (1, .int (nI p)), (2, .int (nI dd)), (3, .int (nI hr)), (4, .int (nI (((List.range' j n).filter (fun m => P 5 m == h)).foldl (y_m P) X))), (5, .int (nI x)), (6, .int (nI h)), (7, .int (nI y))] []) →
    V mX8_mayOf E Ω 0 0 (SH u v) I L 86 [(0, .ref (Ω.1 + 63)), (1, .int (nI p)), (2, .int (nI dd)), (3, .int (nI hr)), (4, .int (nI X)), (5, .int (nI x)), (6, .int (nI h)), (7, .int (nI j))] [] := by
  have h6 := hP.1.2
  have h12 := hP.2.2.1
  intro n
  induction n with
  | zero =>
    intro j X hj hX hk
    refine V_iload 86 7 dX8_mayOf_86 rfl ?_
    refine V_aload_n 88 0 dX8_mayOf_88 rfl ?_
    refine V_getR 89 flX8_7 dX8_mayOf_89 rfl ?_
    refine V_cst 92 1 dX8_mayOf_92 rfl ?_
    refine V_iald 93 dX8_mayOf_93 rfl (by omega) (by omega) ?_
    rw [hMP.2.1]
    refine V_cN_ge 94 168 dX8_mayOf_94 (by decide) (by omega) (by omega) (fun c => ?_) (fun c => ?_)
    · exact hk j
    · omega
  | succ n ih =>
    intro j X hj hX hk
    obtain ⟨m3, m4, m5⟩ := hMP.2.2.2.2.1 j (by omega)
    obtain ⟨q1, q2, q3, q4⟩ := hP.2.2.2.1 j (by omega)
    rw [List.range'_succ] at hk
    refine V_iload 86 7 dX8_mayOf_86 rfl ?_
    refine V_aload_n 88 0 dX8_mayOf_88 rfl ?_
    refine V_getR 89 flX8_7 dX8_mayOf_89 rfl ?_
    refine V_cst 92 1 dX8_mayOf_92 rfl ?_
    refine V_iald 93 dX8_mayOf_93 rfl (by omega) (by omega) ?_
    rw [hMP.2.1]
    refine V_cN_ge 94 168 dX8_mayOf_94 (by decide) (by omega) (by omega) (fun c => ?_) (fun c => ?_)
    · omega
    refine V_aload_n 97 0 dX8_mayOf_97 rfl ?_
    refine V_getR 98 flX8_22 dX8_mayOf_98 rfl ?_
    refine V_iload 101 7 dX8_mayOf_101 rfl ?_
    refine V_iald 103 dX8_mayOf_103 rfl (by omega) (by omega) ?_
    rw [m5]
    refine V_iload 104 6 dX8_mayOf_104 rfl ?_
    refine V_cN_ne 106 162 dX8_mayOf_106 (by decide) (by omega) (by omega) (fun c1 => ?_) (fun c1 => ?_)
    · rw [List.filter_cons_of_neg (by rw [beq_iff_eq]; exact c1)] at hk
      refine V_inc 162 7 _ [(0, _), (1, _), (2, _), (3, _), (4, _), (5, _), (6, _), (7, _)] dX8_mayOf_162 rfl rfl rfl (by decide) rfl ?_
      refine V_goto 165 86 dX8_mayOf_165 (by decide) ?_
      exact ih (j + 1) X (by omega) hX hk
    rw [List.filter_cons_of_pos (by rw [beq_iff_eq]; exact c1)] at hk
    have hk : ∀ y, V mX8_mayOf E Ω 0 0 (SH u v) I L 168 [(0, .ref (Ω.1 + 63)), (1, .int (nI p)), (2, .int (nI dd)), (3, .int (nI hr)), (4, .int (nI (((List.range' (j + 1) n).filter (fun m => P 5 m == h)).foldl (y_m P) (y_m P X j)))), (5, .int (nI x)), (6, .int (nI h)), (7, .int (nI y))] [] := hk
    have b3 : (X / 2 ^ P 3 j) &&& 1 < 2 := and_lt2 (by decide)
    have b4 : (X / 2 ^ P 4 j) &&& 1 < 2 := and_lt2 (by decide)
    have hym := y_m_sum (P := P) X j
    refine V_iload 109 4 dX8_mayOf_109 rfl ?_
    refine V_aload_n 111 0 dX8_mayOf_111 rfl ?_
    refine V_getR 112 flX8_16 dX8_mayOf_112 rfl ?_
    refine V_iload 115 7 dX8_mayOf_115 rfl ?_
    refine V_iald 117 dX8_mayOf_117 rfl (by omega) (by omega) ?_
    rw [m3]
    refine V_shr 118 dX8_mayOf_118 (by omega) (by omega) ?_
    refine V_cst 119 1 dX8_mayOf_119 rfl ?_
    refine V_and 120 dX8_mayOf_120 ?_
    refine V_iload 121 4 dX8_mayOf_121 rfl ?_
    refine V_aload_n 123 0 dX8_mayOf_123 rfl ?_
    refine V_getR 124 flX8_19 dX8_mayOf_124 rfl ?_
    refine V_iload 127 7 dX8_mayOf_127 rfl ?_
    refine V_iald 129 dX8_mayOf_129 rfl (by omega) (by omega) ?_
    rw [m4]
    refine V_shr 130 dX8_mayOf_130 (by omega) (by omega) ?_
    refine V_cst 131 1 dX8_mayOf_131 rfl ?_
    refine V_and 132 dX8_mayOf_132 ?_
    refine V_add 133 dX8_mayOf_133 ?_
    refine V_cst 134 1 dX8_mayOf_134 rfl ?_
    refine V_cN_ne 135 162 dX8_mayOf_135 (by decide) (by omega) (by omega) (fun c2 => ?_) (fun c2 => ?_)
    · rw [if_neg c2] at hym
      rw [hym] at hk
      refine V_inc 162 7 _ [(0, _), (1, _), (2, _), (3, _), (4, _), (5, _), (6, _), (7, _)] dX8_mayOf_162 rfl rfl rfl (by decide) rfl ?_
      refine V_goto 165 86 dX8_mayOf_165 (by decide) ?_
      exact ih (j + 1) X (by omega) hX hk
    · rw [if_pos c2] at hym
      rw [hym] at hk
      refine V_iload 138 4 dX8_mayOf_138 rfl ?_
      refine V_cst 140 1 dX8_mayOf_140 rfl ?_
      refine V_aload_n 141 0 dX8_mayOf_141 rfl ?_
      refine V_getR 142 flX8_16 dX8_mayOf_142 rfl ?_
      refine V_iload 145 7 dX8_mayOf_145 rfl ?_
      refine V_iald 147 dX8_mayOf_147 rfl (by omega) (by omega) ?_
      rw [m3]
      refine V_shl 148 dX8_mayOf_148 (by omega) ?_
      refine V_cst 149 1 dX8_mayOf_149 rfl ?_
      refine V_aload_n 150 0 dX8_mayOf_150 rfl ?_
      refine V_getR 151 flX8_19 dX8_mayOf_151 rfl ?_
      refine V_iload 154 7 dX8_mayOf_154 rfl ?_
      refine V_iald 156 dX8_mayOf_156 rfl (by omega) (by omega) ?_
      rw [m4]
      refine V_shl 157 dX8_mayOf_157 (by omega) ?_
      refine V_or 158 dX8_mayOf_158 ?_
      refine V_or 159 dX8_mayOf_159 ?_
      refine V_istore 160 [(0, _), (1, _), (2, _), (3, _), (4, _), (5, _), (6, _), (7, _)] dX8_mayOf_160 (by decide) rfl ?_
      refine V_inc 162 7 _ [(0, _), (1, _), (2, _), (3, _), (4, _), (5, _), (6, _), (7, _)] dX8_mayOf_162 rfl rfl rfl (by decide) rfl ?_
      refine V_goto 165 86 dX8_mayOf_165 (by decide) ?_
      rw [Nat.one_mul, Nat.one_mul]
      exact ih (j + 1) _ (by omega) (or6 hX (or6 (p6 (by omega)) (p6 (by omega)))) hk
theorem my_h {p dd hr x : Nat} (hP : s_POK P) (hp : p < P 6 0) (hMP : MP P I) (hhr : hr < 12) (hdd : dd < 100) (hx : x ≤ dd) : ∀ (n h : Nat), h + n = 12 → (x = dd → h ≤ hr + 1) →
    (∀ h', V mX8_mayOf E Ω 0 0 (SH u v) I L 41 [(0, .ref (Ω.1 + 63)), (1, .int (nI p)), (2, .int (nI dd)), (3, .int (nI hr)), (4, .int (nI (y_B P p (dd * 12 + hr + 1)))), (5, .int (nI x)), (6, .int (nI h'))] [.int (nI (y_B P p (dd * 12 + hr + 1)))]) →
    ((x = dd → hr = 11) → V mX8_mayOf E Ω 0 0 (SH u v) I L 174 [(0, .ref (Ω.1 + 63)), (1, .int (nI p)), (2, .int (nI dd)), (3, .int (nI hr)), (4, .int (nI (y_B P p (x * 12 + 12)))), (5, .int (nI x)), (6, .int (nI 12))] []) →
    V mX8_mayOf E Ω 0 0 (SH u v) I L 20 [(0, .ref (Ω.1 + 63)), (1, .int (nI p)), (2, .int (nI dd)), (3, .int (nI hr)), (4, .int (nI (y_B P p (x * 12 + h)))), (5, .int (nI x)), (6, .int (nI h))] [] := by
  have h6 := hP.1.2
  have h12 := hP.2.2.2.2.1
  have hlt : ∀ t, y_B P p t < 64 := fun t => Nat.lt_of_lt_of_le (y_B_lt hP hp t) (Nat.pow_le_pow_right (by decide) h6)
  obtain ⟨p7, p8, p9, p10, p11⟩ := hMP.2.2.2.2.2 p hp
  obtain ⟨r7, r8, r87, r9, r10, r11⟩ := hP.2.2.2.2.2 p hp
  intro n
  induction n with
  | zero =>
    intro h hh hd k1 k2
    have e : h = 12 := by omega
    subst e
    refine V_iload 20 6 dX8_mayOf_20 rfl ?_
    refine V_bip 22 12 dX8_mayOf_22 rfl ?_
    refine V_cN_ge 24 174 dX8_mayOf_24 (by decide) (by omega) (by omega) (fun c => ?_) (fun c => ?_)
    · exact k2 (fun e => by have := hd e; omega)
    · omega
  | succ n ih =>
    intro h hh hd k1 k2
    have go : ∀ y, V mX8_mayOf E Ω 0 0 (SH u v) I L 168 [(0, .ref (Ω.1 + 63)), (1, .int (nI p)), (2, .int (nI dd)), (3, .int (nI hr)), (4, .int (nI (((List.range' 0 (P 2 0)).filter (fun m => P 5 m == h)).foldl (y_m P) (y_A P p (x * 12 + h))))), (5, .int (nI x)), (6, .int (nI h)), (7, .int (nI y))] [] ∨ ¬ (x = dd → h ≤ hr) := by
      intro y
      by_cases hcond : x = dd → h ≤ hr
      · left
        have e : ((List.range' 0 (P 2 0)).filter (fun m => P 5 m == h)).foldl (y_m P) (y_A P p (x * 12 + h)) = y_B P p (x * 12 + (h + 1)) := by
          rw [show x * 12 + (h + 1) = (x * 12 + h) + 1 by omega, y_B_succ, show (x * 12 + h) % 12 = h by omega, ← List.range_eq_range']
          rfl
        rw [e]
        refine V_inc 168 6 _ [(0, _), (1, _), (2, _), (3, _), (4, _), (5, _), (6, _), (7, _)] dX8_mayOf_168 rfl rfl rfl (by decide) rfl ?_
        refine V_sub [(0, _), (1, _), (2, _), (3, _), (4, _), (5, _), (6, _)] [0, 1, 2, 3, 4, 5, 6] rfl ?_
        refine V_goto 171 20 dX8_mayOf_171 (by decide) ?_
        refine V_sub [(0, _), (1, _), (2, _), (3, _), (4, _), (5, _), (6, _)] [0, 1, 2, 3, 4, 5, 6] rfl ?_
        exact ih (h + 1) (by omega) (fun e => by have := hcond e; omega) k1 k2
      · exact Or.inr hcond
    have k83 : (x = dd → h ≤ hr) → V mX8_mayOf E Ω 0 0 (SH u v) I L 83 [(0, .ref (Ω.1 + 63)), (1, .int (nI p)), (2, .int (nI dd)), (3, .int (nI hr)), (4, .int (nI (y_A P p (x * 12 + h)))), (5, .int (nI x)), (6, .int (nI h))] [] := by
      intro hcond
      have hA : y_A P p (x * 12 + h) < 64 := by
        rw [y_AB]
        split
        · exact y_0_lt hP hp
        · exact hlt _
      refine V_cst 83 0 dX8_mayOf_83 rfl ?_
      refine V_istore 84 [(0, _), (1, _), (2, _), (3, _), (4, _), (5, _), (6, _), (7, _)] dX8_mayOf_84 (by decide) rfl ?_
      refine my_in hP hMP (by omega) (P 2 0) 0 _ (by omega) hA (fun y => ?_)
      rcases go y with q | q
      · exact q
      · exact absurd hcond q
    have k42 : (x = dd → h ≤ hr) → V mX8_mayOf E Ω 0 0 (SH u v) I L 42 [(0, .ref (Ω.1 + 63)), (1, .int (nI p)), (2, .int (nI dd)), (3, .int (nI hr)), (4, .int (nI (y_B P p (x * 12 + h)))), (5, .int (nI x)), (6, .int (nI h))] [] := by
      intro hcond
      have hA := y_AB (P := P) (p := p) (x * 12 + h)
      refine V_iload 42 5 dX8_mayOf_42 rfl ?_
      refine V_aload_n 44 0 dX8_mayOf_44 rfl ?_
      refine V_getR 45 flX8_31 dX8_mayOf_45 rfl ?_
      refine V_iload_n 48 1 dX8_mayOf_48 rfl ?_
      refine V_iald 49 dX8_mayOf_49 rfl (by omega) (by omega) ?_
      rw [p9]
      refine V_cN_ne 50 83 dX8_mayOf_50 (by decide) (by omega) (by omega) (fun c2 => ?_) (fun c2 => ?_)
      · rw [if_neg (by unfold y_fr; omega)] at hA
        rw [← hA]
        exact k83 hcond
      refine V_iload 53 6 dX8_mayOf_53 rfl ?_
      refine V_aload_n 55 0 dX8_mayOf_55 rfl ?_
      refine V_getR 56 flX8_34 dX8_mayOf_56 rfl ?_
      refine V_iload_n 59 1 dX8_mayOf_59 rfl ?_
      refine V_iald 60 dX8_mayOf_60 rfl (by omega) (by omega) ?_
      rw [p10]
      refine V_cN_ne 61 83 dX8_mayOf_61 (by decide) (by omega) (by omega) (fun c3 => ?_) (fun c3 => ?_)
      · rw [if_neg (by unfold y_fr; omega)] at hA
        rw [← hA]
        exact k83 hcond
      rw [if_pos (by unfold y_fr; omega)] at hA
      refine V_cst 64 1 dX8_mayOf_64 rfl ?_
      refine V_aload_n 65 0 dX8_mayOf_65 rfl ?_
      refine V_getR 66 flX8_25 dX8_mayOf_66 rfl ?_
      refine V_iload_n 69 1 dX8_mayOf_69 rfl ?_
      refine V_iald 70 dX8_mayOf_70 rfl (by omega) (by omega) ?_
      rw [p7]
      refine V_shl 71 dX8_mayOf_71 (by omega) ?_
      refine V_cst 72 1 dX8_mayOf_72 rfl ?_
      refine V_aload_n 73 0 dX8_mayOf_73 rfl ?_
      refine V_getR 74 flX8_28 dX8_mayOf_74 rfl ?_
      refine V_iload_n 77 1 dX8_mayOf_77 rfl ?_
      refine V_iald 78 dX8_mayOf_78 rfl (by omega) (by omega) ?_
      rw [p8]
      refine V_shl 79 dX8_mayOf_79 (by omega) ?_
      refine V_or 80 dX8_mayOf_80 ?_
      refine V_istore 81 [(0, _), (1, _), (2, _), (3, _), (4, _), (5, _), (6, _)] dX8_mayOf_81 (by decide) rfl ?_
      rw [Nat.one_mul, Nat.one_mul, show 2 ^ P 7 p ||| 2 ^ P 8 p = y_A P p (x * 12 + h) from hA.symm]
      exact k83 hcond
    refine V_iload 20 6 dX8_mayOf_20 rfl ?_
    refine V_bip 22 12 dX8_mayOf_22 rfl ?_
    refine V_cN_ge 24 174 dX8_mayOf_24 (by decide) (by omega) (by omega) (fun c => ?_) (fun c => ?_)
    · omega
    refine V_iload 27 5 dX8_mayOf_27 rfl ?_
    refine V_iload_n 29 2 dX8_mayOf_29 rfl ?_
    refine V_cN_ne 30 42 dX8_mayOf_30 (by decide) (by omega) (by omega) (fun c1 => ?_) (fun c1 => ?_)
    · exact k42 (fun e => absurd e c1)
    refine V_iload 33 6 dX8_mayOf_33 rfl ?_
    refine V_iload_n 35 3 dX8_mayOf_35 rfl ?_
    refine V_cN_le 36 42 dX8_mayOf_36 (by decide) (by omega) (by omega) (fun c2 => ?_) (fun c2 => ?_)
    · exact k42 (fun _ => c2)
    refine V_iload 39 4 dX8_mayOf_39 rfl ?_
    have e : x * 12 + h = dd * 12 + hr + 1 := by have := hd c1; omega
    rw [e]
    exact k1 h
theorem m_mayOf {p dd hr : Nat} (hP : s_POK P) (hp : p < P 6 0) (hMP : MP P I) (hhr : hr < 12) (hdd : dd < 100) : FnI Ω d mX8_mayOf [.ref (Ω.1 + 63), .int (nI p), .int (nI dd), .int (nI hr)] (SH u v) I L (fun r S' I' L' => r = nI (y_B P p (dd * 12 + hr + 1)) ∧ S' = SH u v ∧ I = I' ∧ L = L') := by
  obtain ⟨p7, p8, p9, p10, p11⟩ := hMP.2.2.2.2.2 p hp
  obtain ⟨r7, r8, r87, r9, r10, r11⟩ := hP.2.2.2.2.2 p hp
  have h12 := hP.2.2.2.2.1
  refine FnR_of okX8_mayOf (Nat.le_of_ble_eq_true rfl) fun l z => ?_
  show V _ _ _ _ _ _ _ _ 0 [(0, _), (1, _), (2, _), (3, _)] []
  have out : ∀ (n x : Nat), x + n = dd + 1 → (x = dd + 1 → hr = 11) → V mX8_mayOf (w_Er l d 0 0 Ω (w_pi (fun r S' I' L' => r = nI (y_B P p (dd * 12 + hr + 1)) ∧ S' = SH u v ∧ I = I' ∧ L = L')) z) Ω 0 0 (SH u v) I L 11 [(0, .ref (Ω.1 + 63)), (1, .int (nI p)), (2, .int (nI dd)), (3, .int (nI hr)), (4, .int (nI (y_B P p (x * 12)))), (5, .int (nI x))] [] := by
    intro n
    induction n with
    | zero =>
      intro x hx h11
      have e : x = dd + 1 := by omega
      have := h11 e
      subst e
      refine V_iload 11 5 dX8_mayOf_11 rfl ?_
      refine V_iload_n 13 2 dX8_mayOf_13 rfl ?_
      refine V_cN_gt 14 180 dX8_mayOf_14 (by decide) (by omega) (by omega) (fun c => ?_) (fun c => ?_)
      · refine V_iload 180 4 dX8_mayOf_180 rfl ?_
        refine V_iret 182 dX8_mayOf_182 rfl ⟨?_, rfl, rfl, rfl⟩
        rw [show dd * 12 + hr + 1 = (dd + 1) * 12 by omega]
      · omega
    | succ n ih =>
      intro x hx h11
      refine V_iload 11 5 dX8_mayOf_11 rfl ?_
      refine V_iload_n 13 2 dX8_mayOf_13 rfl ?_
      refine V_cN_gt 14 180 dX8_mayOf_14 (by decide) (by omega) (by omega) (fun c => ?_) (fun c => ?_)
      · omega
      refine V_cst 17 0 dX8_mayOf_17 rfl ?_
      refine V_istore 18 [(0, _), (1, _), (2, _), (3, _), (4, _), (5, _), (6, _)] dX8_mayOf_18 (by decide) rfl ?_
      refine my_h (x := x) (h := 0) (n := 12) hP hp hMP hhr hdd (by omega) (by omega) (fun _ => Nat.zero_le _) (fun h' => ?_) (fun h11' => ?_)
      · exact V_iret 41 dX8_mayOf_41 rfl ⟨rfl, rfl, rfl, rfl⟩
      · refine V_inc 174 5 _ [(0, _), (1, _), (2, _), (3, _), (4, _), (5, _), (6, _)] dX8_mayOf_174 rfl rfl rfl (by decide) rfl ?_
        refine V_sub [(0, _), (1, _), (2, _), (3, _), (4, _), (5, _)] [0, 1, 2, 3, 4, 5] rfl ?_
        refine V_goto 177 11 dX8_mayOf_177 (by decide) ?_
        refine V_sub [(0, _), (1, _), (2, _), (3, _), (4, _), (5, _)] [0, 1, 2, 3, 4, 5] rfl ?_
        rw [show x * 12 + 12 = (x + 1) * 12 by omega]
        exact ih (x + 1) (by omega) (fun e => h11' (by omega))
  refine V_cst 0 0 dX8_mayOf_0 rfl ?_
  refine V_istore 1 [(0, _), (1, _), (2, _), (3, _), (4, _)] dX8_mayOf_1 (by decide) rfl ?_
  refine V_aload_n 3 0 dX8_mayOf_3 rfl ?_
  refine V_getR 4 flX8_31 dX8_mayOf_4 rfl ?_
  refine V_iload_n 7 1 dX8_mayOf_7 rfl ?_
  refine V_iald 8 dX8_mayOf_8 rfl (by omega) (by omega) ?_
  rw [p9]
  refine V_istore 9 [(0, _), (1, _), (2, _), (3, _), (4, _), (5, _)] dX8_mayOf_9 (by decide) rfl ?_
  have e0 : y_B P p (P 9 p * 12) = 0 := by unfold y_B y_fr; rw [if_pos (by omega)]
  by_cases hb : dd < P 9 p
  · refine V_iload 11 5 dX8_mayOf_11 rfl ?_
    refine V_iload_n 13 2 dX8_mayOf_13 rfl ?_
    refine V_cN_gt 14 180 dX8_mayOf_14 (by decide) (by omega) (by omega) (fun c => ?_) (fun c => ?_)
    · refine V_iload 180 4 dX8_mayOf_180 rfl ?_
      refine V_iret 182 dX8_mayOf_182 rfl ⟨?_, rfl, rfl, rfl⟩
      unfold y_B y_fr
      rw [if_pos (by omega)]
    · omega
  · have := out (dd + 1 - P 9 p) (P 9 p) (by omega) (fun e => by omega)
    rw [e0] at this
    exact this
end
