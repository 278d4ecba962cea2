section
variable {Ω : w_O} {d u v : Nat} {L : w_L} {E : w_E} {P Y : w_R} {I : w_I} {σ : w_Z}
theorem m_meeting {a b : Nat} (ha : a < 4294967296) (hb : b < 4294967296) (hO : SOK σ) (hM : MInv σ I) : FnI Ω (d + 2) mX8_meeting [.ref (Ω.1 + 63), .int (nI a), .int (nI b)] (SH u v) I L (MO u v L I σ (if a < σ 0 2 0 ∧ b < 3 then 0 else 1) (σ 0 (3 + b) a)) := by
  have h12 := hO.1.2.2.1
  have hM1 : MInv σ (w_put I 63 0 0) := hM.code
  refine FnR_of okX8_meeting (Nat.le_of_ble_eq_true rfl) fun l z => ?_
  have hE : w_fit (d + 1) (w_Er l (d + 2) 0 0 Ω (w_pi (MO u v L I σ (if a < σ 0 2 0 ∧ b < 3 then 0 else 1) (σ 0 (3 + b) a))) z) := w_fit_r
  show V _ _ _ _ _ _ _ _ 0 [(0, _), (1, _), (2, _)] []
  refine V_aload_n 0 0 dX8_meeting_0 rfl ?_
  refine V_cst 1 0 dX8_meeting_1 rfl ?_
  refine V_putI 2 flX8_128 ft_8_0 dX8_meeting_2 rfl ?_
  refine V_aload_n 5 0 dX8_meeting_5 rfl ?_
  refine V_iload_n 6 1 dX8_meeting_6 rfl ?_
  refine V_vi 7 mvX8_255 dX8_meeting_7 ⟨_, _, _, rfl, rfl, rfl⟩ (w_fit.mono (by omega) hE) (m_isMeeting (d := d) ha hO.1 hM1.1) rfl (Nat.le_of_ble_eq_true rfl) ?_
  rintro _ _ _ _ ⟨rfl, rfl, rfl, rfl⟩
  by_cases h : a < σ 0 2 0
  · obtain ⟨m1, m2, m3⟩ := hM1.1.2.2.2.2.1 a h
    rw [show (if a < σ 0 2 0 then 1 else 0) = 1 from if_pos h]
    refine V_zN_ne 10 19 dX8_meeting_10 (by decide) (by omega) (fun c => ?_) (fun c => ?_)
    rotate_left
    · exact absurd c (by decide)
    have k65 : ∀ x, (a < σ 0 2 0 ∧ b < 3) → x = σ 0 (3 + b) a → V mX8_meeting (w_Er l (d + 2) 0 0 Ω (w_pi (MO u v L I σ (if a < σ 0 2 0 ∧ b < 3 then 0 else 1) (σ 0 (3 + b) a))) z) Ω 0 0 (SH u v) (w_put I 63 0 0) L 65 [(0, .ref (Ω.1 + 63)), (1, .int (nI a)), (2, .int (nI b))] [.int (nI x)] := by
      intro x h1 h2
      rw [if_pos h1]
      exact V_iret 65 dX8_meeting_65 rfl ⟨rfl, rfl, w_put_same _ _ _ _, fun _ => by rw [h2], hM1, FrM.rf.put (by decide) (by decide)⟩
    refine V_iload_n 19 2 dX8_meeting_19 rfl ?_
    refine V_zN_ne 20 32 dX8_meeting_20 (by decide) (by omega) (fun c0 => ?_) (fun c0 => ?_)
    · refine V_iload_n 32 2 dX8_meeting_32 rfl ?_
      refine V_cst 33 1 dX8_meeting_33 rfl ?_
      refine V_cN_ne 34 46 dX8_meeting_34 (by decide) (by omega) (by omega) (fun c1 => ?_) (fun c1 => ?_)
      · refine V_iload_n 46 2 dX8_meeting_46 rfl ?_
        refine V_cst 47 2 dX8_meeting_47 rfl ?_
        refine V_cN_ne 48 60 dX8_meeting_48 (by decide) (by omega) (by omega) (fun c2 => ?_) (fun c2 => ?_)
        · rw [if_neg (fun q => by omega)]
          refine V_aload_n 60 0 dX8_meeting_60 rfl ?_
          refine V_cst 61 1 dX8_meeting_61 rfl ?_
          refine V_vi 62 mvX8_232 dX8_meeting_62 ⟨_, _, _, rfl, rfl, rfl⟩ (w_fit.mono (by omega) hE) (m_fail (d := d) (x := 1)) rfl (Nat.le_of_ble_eq_true rfl) ?_
          rintro _ _ _ _ ⟨rfl, rfl, rfl, rfl⟩
          exact V_iret 65 dX8_meeting_65 rfl ⟨rfl, rfl, w_put_same _ _ _ _, fun e => absurd e (by decide), hM1.code, (FrM.rf.put (by decide) (by decide)).put (by decide) (by decide)⟩
        · subst c2
          refine V_aload_n 51 0 dX8_meeting_51 rfl ?_
          refine V_getR 52 flX8_22 dX8_meeting_52 rfl ?_
          refine V_iload_n 55 1 dX8_meeting_55 rfl ?_
          refine V_iald 56 dX8_meeting_56 rfl (by omega) (by omega) ?_
          refine V_goto 57 65 dX8_meeting_57 (by decide) ?_
          exact k65 _ ⟨h, by decide⟩ m3
      · subst c1
        refine V_aload_n 37 0 dX8_meeting_37 rfl ?_
        refine V_getR 38 flX8_19 dX8_meeting_38 rfl ?_
        refine V_iload_n 41 1 dX8_meeting_41 rfl ?_
        refine V_iald 42 dX8_meeting_42 rfl (by omega) (by omega) ?_
        refine V_goto 43 65 dX8_meeting_43 (by decide) ?_
        exact k65 _ ⟨h, by decide⟩ m2
    · subst c0
      refine V_aload_n 23 0 dX8_meeting_23 rfl ?_
      refine V_getR 24 flX8_16 dX8_meeting_24 rfl ?_
      refine V_iload_n 27 1 dX8_meeting_27 rfl ?_
      refine V_iald 28 dX8_meeting_28 rfl (by omega) (by omega) ?_
      refine V_goto 29 65 dX8_meeting_29 (by decide) ?_
      exact k65 _ ⟨h, by decide⟩ m1
  · rw [show (if a < σ 0 2 0 then 1 else 0) = 0 from if_neg h, if_neg (fun q => h q.1)]
    refine V_zN_ne 10 19 dX8_meeting_10 (by decide) (by omega) (fun c => ?_) (fun c => ?_)
    · exact absurd rfl c
    refine V_aload_n 13 0 dX8_meeting_13 rfl ?_
    refine V_cst 14 1 dX8_meeting_14 rfl ?_
    refine V_vi 15 mvX8_232 dX8_meeting_15 ⟨_, _, _, rfl, rfl, rfl⟩ (w_fit.mono (by omega) hE) (m_fail (d := d) (x := 1)) rfl (Nat.le_of_ble_eq_true rfl) ?_
    rintro _ _ _ _ ⟨rfl, rfl, rfl, rfl⟩
    exact V_iret 18 dX8_meeting_18 rfl ⟨rfl, rfl, w_put_same _ _ _ _, fun e => absurd e (by decide), hM1.code, (FrM.rf.put (by decide) (by decide)).put (by decide) (by decide)⟩
theorem m_promise {a b : Nat} (ha : a < 4294967296) (hb : b < 4294967296) (hO : SOK σ) (hM : MInv σ I) : FnI Ω (d + 2) mX8_promise [.ref (Ω.1 + 63), .int (nI a), .int (nI b)] (SH u v) I L (MO u v L I σ (if a < σ 0 6 0 ∧ b < 8 then 0 else 1) (q_prom σ a b)) := by
  have h12 := hO.1.2.2.2.2.1
  have hM1 : MInv σ (w_put I 63 0 0) := hM.code
  refine FnR_of okX8_promise (Nat.le_of_ble_eq_true rfl) fun l z => ?_
  have hE : w_fit (d + 1) (w_Er l (d + 2) 0 0 Ω (w_pi (MO u v L I σ (if a < σ 0 6 0 ∧ b < 8 then 0 else 1) (q_prom σ a b))) z) := w_fit_r
  show V _ _ _ _ _ _ _ _ 0 [(0, _), (1, _), (2, _)] []
  refine V_aload_n 0 0 dX8_promise_0 rfl ?_
  refine V_cst 1 0 dX8_promise_1 rfl ?_
  refine V_putI 2 flX8_128 ft_8_0 dX8_promise_2 rfl ?_
  refine V_aload_n 5 0 dX8_promise_5 rfl ?_
  refine V_iload_n 6 1 dX8_promise_6 rfl ?_
  refine V_vi 7 mvX8_258 dX8_promise_7 ⟨_, _, _, rfl, rfl, rfl⟩ (w_fit.mono (by omega) hE) (m_isPromise (d := d) ha hO.1 hM1.1) rfl (Nat.le_of_ble_eq_true rfl) ?_
  rintro _ _ _ _ ⟨rfl, rfl, rfl, rfl⟩
  by_cases h : a < σ 0 6 0
  · obtain ⟨m1, m2, m3, m4, m5⟩ := hM1.1.2.2.2.2.2 a h
    obtain ⟨n1, n2, n3⟩ := hM1.2.2.1.2.2 a h
    rw [Nat.mul_zero, Nat.zero_add] at n1 n2 n3
    rw [show (if a < σ 0 6 0 then 1 else 0) = 1 from if_pos h]
    refine V_zN_ne 10 19 dX8_promise_10 (by decide) (by omega) (fun c => ?_) (fun c => ?_)
    rotate_left
    · exact absurd c (by decide)
    refine V_iload_n 19 2 dX8_promise_19 rfl ?_
    by_cases h8 : b < 8
    · rw [if_pos ⟨h, h8⟩]
      have fin : ∀ x, x = q_prom σ a b → MO u v L I σ 0 (q_prom σ a b) (nI x) (SH u v) (w_put I 63 0 0) L := fun x hx => ⟨rfl, rfl, w_put_same _ _ _ _, fun _ => by rw [hx], hM1, FrM.rf.put (by decide) (by decide)⟩
      rcases (show b = 0 ∨ b = 1 ∨ b = 2 ∨ b = 3 ∨ b = 4 ∨ b = 5 ∨ b = 6 ∨ b = 7 by omega) with rfl | rfl | rfl | rfl | rfl | rfl | rfl | rfl
      · refine V_tabIn 20 68 dX8_promise_20 (by decide) (by decide) rfl (by decide) ?_
        refine V_aload_n 68 0 dX8_promise_68 rfl ?_
        refine V_getR 69 flX8_25 dX8_promise_69 rfl ?_
        refine V_iload_n 72 1 dX8_promise_72 rfl ?_
        refine V_iald 73 dX8_promise_73 rfl (by omega) (by omega) ?_
        exact V_iret 74 dX8_promise_74 rfl (fin _ m1)
      · refine V_tabIn 20 75 dX8_promise_20 (by decide) (by decide) rfl (by decide) ?_
        refine V_aload_n 75 0 dX8_promise_75 rfl ?_
        refine V_getR 76 flX8_28 dX8_promise_76 rfl ?_
        refine V_iload_n 79 1 dX8_promise_79 rfl ?_
        refine V_iald 80 dX8_promise_80 rfl (by omega) (by omega) ?_
        exact V_iret 81 dX8_promise_81 rfl (fin _ m2)
      · refine V_tabIn 20 82 dX8_promise_20 (by decide) (by decide) rfl (by decide) ?_
        refine V_aload_n 82 0 dX8_promise_82 rfl ?_
        refine V_getR 83 flX8_31 dX8_promise_83 rfl ?_
        refine V_iload_n 86 1 dX8_promise_86 rfl ?_
        refine V_iald 87 dX8_promise_87 rfl (by omega) (by omega) ?_
        exact V_iret 88 dX8_promise_88 rfl (fin _ m3)
      · refine V_tabIn 20 89 dX8_promise_20 (by decide) (by decide) rfl (by decide) ?_
        refine V_aload_n 89 0 dX8_promise_89 rfl ?_
        refine V_getR 90 flX8_34 dX8_promise_90 rfl ?_
        refine V_iload_n 93 1 dX8_promise_93 rfl ?_
        refine V_iald 94 dX8_promise_94 rfl (by omega) (by omega) ?_
        exact V_iret 95 dX8_promise_95 rfl (fin _ m4)
      · refine V_tabIn 20 96 dX8_promise_20 (by decide) (by decide) rfl (by decide) ?_
        refine V_aload_n 96 0 dX8_promise_96 rfl ?_
        refine V_getR 97 flX8_37 dX8_promise_97 rfl ?_
        refine V_iload_n 100 1 dX8_promise_100 rfl ?_
        refine V_iald 101 dX8_promise_101 rfl (by omega) (by omega) ?_
        exact V_iret 102 dX8_promise_102 rfl (fin _ m5)
      · refine V_tabIn 20 103 dX8_promise_20 (by decide) (by decide) rfl (by decide) ?_
        refine V_aload_n 103 0 dX8_promise_103 rfl ?_
        refine V_getR 104 flX8_68 dX8_promise_104 rfl ?_
        refine V_iload_n 107 1 dX8_promise_107 rfl ?_
        refine V_iald 108 dX8_promise_108 rfl (by omega) (by omega) ?_
        exact V_iret 109 dX8_promise_109 rfl (fin _ n1)
      · refine V_tabIn 20 110 dX8_promise_20 (by decide) (by decide) rfl (by decide) ?_
        refine V_aload_n 110 0 dX8_promise_110 rfl ?_
        refine V_getR 111 flX8_71 dX8_promise_111 rfl ?_
        refine V_iload_n 114 1 dX8_promise_114 rfl ?_
        refine V_iald 115 dX8_promise_115 rfl (by omega) (by omega) ?_
        exact V_iret 116 dX8_promise_116 rfl (fin _ n2)
      · refine V_tabIn 20 117 dX8_promise_20 (by decide) (by decide) rfl (by decide) ?_
        refine V_aload_n 117 0 dX8_promise_117 rfl ?_
        refine V_getR 118 flX8_74 dX8_promise_118 rfl ?_
        refine V_iload_n 121 1 dX8_promise_121 rfl ?_
        refine V_iald 122 dX8_promise_122 rfl (by omega) (by omega) ?_
        exact V_iret 123 dX8_promise_123 rfl (fin _ n3)
    · rw [if_neg (fun q => h8 q.2)]
      refine V_tabOut 20 124 dX8_promise_20 (tab_out (m := 7) hb (by omega) (by decide)) (by decide) ?_
      refine V_aload_n 124 0 dX8_promise_124 rfl ?_
      refine V_cst 125 1 dX8_promise_125 rfl ?_
      refine V_vi 126 mvX8_232 dX8_promise_126 ⟨_, _, _, rfl, rfl, rfl⟩ (w_fit.mono (by omega) hE) (m_fail (d := d) (x := 1)) rfl (Nat.le_of_ble_eq_true rfl) ?_
      rintro _ _ _ _ ⟨rfl, rfl, rfl, rfl⟩
      exact V_iret 129 dX8_promise_129 rfl ⟨rfl, rfl, w_put_same _ _ _ _, fun e => absurd e (by decide), hM1.code, (FrM.rf.put (by decide) (by decide)).put (by decide) (by decide)⟩
  · rw [show (if a < σ 0 6 0 then 1 else 0) = 0 from if_neg h, if_neg (fun q => h q.1)]
    refine V_zN_ne 10 19 dX8_promise_10 (by decide) (by omega) (fun c => ?_) (fun c => ?_)
    · exact absurd rfl c
    refine V_aload_n 13 0 dX8_promise_13 rfl ?_
    refine V_cst 14 1 dX8_promise_14 rfl ?_
    refine V_vi 15 mvX8_232 dX8_promise_15 ⟨_, _, _, rfl, rfl, rfl⟩ (w_fit.mono (by omega) hE) (m_fail (d := d) (x := 1)) rfl (Nat.le_of_ble_eq_true rfl) ?_
    rintro _ _ _ _ ⟨rfl, rfl, rfl, rfl⟩
    exact V_iret 18 dX8_promise_18 rfl ⟨rfl, rfl, w_put_same _ _ _ _, fun e => absurd e (by decide), hM1.code, (FrM.rf.put (by decide) (by decide)).put (by decide) (by decide)⟩
theorem m_count {a : Nat} (ha : a < 4294967296) (hO : SOK σ) (hM : MInv σ I) : FnI Ω (d + 2) mX8_count [.ref (Ω.1 + 63), .int (nI a)] (SH u v) I L (MO u v L I σ (if a < 9 then 0 else 1) (q_count σ a)) := by
  have hM1 : MInv σ (w_put I 63 0 0) := hM.code
  obtain ⟨⟨p0, p1, p2, -⟩, ⟨y0, -⟩, ⟨c0, c1, -⟩, ⟨t0, -⟩, ⟨-, s0, s1⟩, -⟩ := hM1
  have hM1 : MInv σ (w_put I 63 0 0) := hM.code
  refine FnR_of okX8_count (Nat.le_of_ble_eq_true rfl) fun l z => ?_
  have hE : w_fit (d + 1) (w_Er l (d + 2) 0 0 Ω (w_pi (MO u v L I σ (if a < 9 then 0 else 1) (q_count σ a))) z) := w_fit_r
  show V _ _ _ _ _ _ _ _ 0 [(0, _), (1, _)] []
  refine V_aload_n 0 0 dX8_count_0 rfl ?_
  refine V_cst 1 0 dX8_count_1 rfl ?_
  refine V_putI 2 flX8_128 ft_8_0 dX8_count_2 rfl ?_
  refine V_iload_n 5 1 dX8_count_5 rfl ?_
  refine V_cst 6 0 dX8_count_6 rfl ?_
  refine V_cst 7 2 dX8_count_7 rfl ?_
  refine V_si 8 msX8_131 dX8_count_8 (w_fit.mono (by omega) hE) (m_isIn (d := d) (a := a) (lo := 0) (hi := 2) ha (by decide) (by decide)) rfl (Nat.le_of_ble_eq_true rfl) ?_
  rintro _ _ _ _ ⟨rfl, rfl, rfl, rfl⟩
  have hin : (sgn 0 ≤ sgn a ∧ sgn a ≤ sgn 2) ↔ a < 3 := m_in (n := 3) ha (by decide)
  simp only [hin]
  have fin : a < 9 → ∀ x, x = q_count σ a → MO u v L I σ (if a < 9 then 0 else 1) (q_count σ a) (nI x) (SH u v) (w_put I 63 0 0) L := fun h x hx => by rw [if_pos h]; exact ⟨rfl, rfl, w_put_same _ _ _ _, fun _ => by rw [hx], hM1, FrM.rf.put (by decide) (by decide)⟩
  by_cases h : a < 3
  · rw [show (if a < 3 then 1 else 0) = 1 from if_pos h]
    refine V_zN_eq 11 21 dX8_count_11 (by decide) (by omega) (fun c => ?_) (fun c => ?_)
    · exact absurd c (by decide)
    refine V_aload_n 14 0 dX8_count_14 rfl ?_
    refine V_getR 15 flX8_7 dX8_count_15 rfl ?_
    refine V_iload_n 18 1 dX8_count_18 rfl ?_
    refine V_iald 19 dX8_count_19 rfl (by omega) (by omega) ?_
    refine V_iret 20 dX8_count_20 rfl (fin (by omega) _ ?_)
    rcases (show a = 0 ∨ a = 1 ∨ a = 2 by omega) with rfl | rfl | rfl
    · exact p0
    · exact p1
    · exact p2
  · rw [show (if a < 3 then 1 else 0) = 0 from if_neg h]
    refine V_zN_eq 11 21 dX8_count_11 (by decide) (by omega) (fun c => ?_) (fun c => ?_)
    rotate_left
    · exact absurd rfl c
    refine V_iload_n 21 1 dX8_count_21 rfl ?_
    by_cases h9 : a < 9
    · rcases (show a = 3 ∨ a = 4 ∨ a = 5 ∨ a = 6 ∨ a = 7 ∨ a = 8 by omega) with rfl | rfl | rfl | rfl | rfl | rfl
      · refine V_tabIn 22 60 dX8_count_22 (by decide) (by decide) rfl (by decide) ?_
        refine V_aload_n 60 0 dX8_count_60 rfl ?_
        refine V_getI 61 flX8_242 dX8_count_61 rfl ?_
        exact V_iret 64 dX8_count_64 rfl (fin (by decide) _ y0)
      · refine V_tabIn 22 65 dX8_count_22 (by decide) (by decide) rfl (by decide) ?_
        refine V_aload_n 65 0 dX8_count_65 rfl ?_
        refine V_getR 66 flX8_62 dX8_count_66 rfl ?_
        refine V_cst 69 0 dX8_count_69 rfl ?_
        refine V_iald 70 dX8_count_70 rfl (by omega) (by omega) ?_
        exact V_iret 71 dX8_count_71 rfl (fin (by decide) _ c0)
      · refine V_tabIn 22 72 dX8_count_22 (by decide) (by decide) rfl (by decide) ?_
        refine V_aload_n 72 0 dX8_count_72 rfl ?_
        refine V_getR 73 flX8_65 dX8_count_73 rfl ?_
        refine V_cst 76 0 dX8_count_76 rfl ?_
        refine V_iald 77 dX8_count_77 rfl (by omega) (by omega) ?_
        exact V_iret 78 dX8_count_78 rfl (fin (by decide) _ c1)
      · refine V_tabIn 22 79 dX8_count_22 (by decide) (by decide) rfl (by decide) ?_
        refine V_aload_n 79 0 dX8_count_79 rfl ?_
        refine V_getI 80 flX8_135 dX8_count_80 rfl ?_
        exact V_iret 83 dX8_count_83 rfl (fin (by decide) _ t0)
      · refine V_tabIn 22 84 dX8_count_22 (by decide) (by decide) rfl (by decide) ?_
        refine V_aload_n 84 0 dX8_count_84 rfl ?_
        refine V_getR 85 flX8_52 dX8_count_85 rfl ?_
        refine V_iload_n 88 1 dX8_count_88 rfl ?_
        refine V_bip 89 7 dX8_count_89 rfl ?_
        refine V_sub1 91 dX8_count_91 (by omega) ?_
        refine V_iald 92 dX8_count_92 rfl (by omega) (by omega) ?_
        exact V_iret 93 dX8_count_93 rfl (fin (by decide) _ s0)
      · refine V_tabIn 22 84 dX8_count_22 (by decide) (by decide) rfl (by decide) ?_
        refine V_aload_n 84 0 dX8_count_84 rfl ?_
        refine V_getR 85 flX8_52 dX8_count_85 rfl ?_
        refine V_iload_n 88 1 dX8_count_88 rfl ?_
        refine V_bip 89 7 dX8_count_89 rfl ?_
        refine V_sub1 91 dX8_count_91 (by omega) ?_
        refine V_iald 92 dX8_count_92 rfl (by omega) (by omega) ?_
        exact V_iret 93 dX8_count_93 rfl (fin (by decide) _ s1)
    · rw [if_neg h9]
      refine V_tabOut 22 94 dX8_count_22 ?_ (by decide) ?_
      · rw [n_toInt ha]; unfold sgn; split <;> omega
      refine V_aload_n 94 0 dX8_count_94 rfl ?_
      refine V_cst 95 1 dX8_count_95 rfl ?_
      refine V_vi 96 mvX8_232 dX8_count_96 ⟨_, _, _, rfl, rfl, rfl⟩ (w_fit.mono (by omega) hE) (m_fail (d := d) (x := 1)) rfl (Nat.le_of_ble_eq_true rfl) ?_
      rintro _ _ _ _ ⟨rfl, rfl, rfl, rfl⟩
      exact V_iret 99 dX8_count_99 rfl ⟨rfl, rfl, w_put_same _ _ _ _, fun e => absurd e (by decide), hM1.code, (FrM.rf.put (by decide) (by decide)).put (by decide) (by decide)⟩
end
