section
variable {P Y C : w_R}
theorem q_st_1 {D : Nat → Prop} (h : HI P D C) (q : Nat) : q_st C q = 1 ↔ (C 3 0).testBit q = true := by
  unfold q_st
  constructor
  · intro e
    split at e
    · exact absurd e (by decide)
    · split at e
      · assumption
      · exact absurd e (by decide)
  · intro e
    have : (C 4 0).testBit q = false := by
      cases h1 : (C 4 0).testBit q
      · rfl
      · have := ((h q).1 h1).2
        rw [this] at e
        exact absurd e (by decide)
    rw [this, e]
    rfl
/-- the model's look at what a promise leans on, and the class's -/
theorem m_lw_mk {D : Nat → Prop} {p : Nat} (hP : s_POK P) (hp : p < P 6 0) (h : HI P D C) : m_lw P C p 0 (P 6 0) = true ↔ P 11 p &&& (C 3 0 ^^^ mI) = 0 := by
  have h12 := hP.2.2.2.2.1
  obtain ⟨q1, q2, q3, q4, q5, q6⟩ := hP.2.2.2.2.2 p hp
  unfold m_lw
  rw [List.all_eq_true]
  constructor
  · intro e
    apply Nat.eq_of_testBit_eq
    intro i
    rw [Nat.testBit_and, Nat.zero_testBit]
    by_cases hi : i < P 6 0
    · have := e i (List.mem_range'.mpr ⟨i, hi, by omega⟩)
      rw [tb_mI (by omega)]
      cases hb : (P 11 p).testBit i
      · rfl
      · rw [hb] at this
        have h1 : q_st C i = 1 := by simpa using this
        rw [(q_st_1 h i).mp h1]
        rfl
    · have : (P 11 p).testBit i = false := Nat.testBit_lt_two_pow (Nat.lt_of_lt_of_le q6 (Nat.pow_le_pow_right (by decide) (by omega)))
      rw [this]; rfl
  · intro e i hi
    obtain ⟨k, hk, rfl⟩ := List.mem_range'.mp hi
    have hb : (P 11 p &&& (C 3 0 ^^^ mI)).testBit (0 + 1 * k) = false := by rw [e, Nat.zero_testBit]
    rw [Nat.testBit_and, tb_mI (by omega)] at hb
    cases h1 : (P 11 p).testBit (0 + 1 * k)
    · rfl
    · rw [h1] at hb
      have h2 : (C 3 0).testBit (0 + 1 * k) = true := by simpa using hb
      have h3 := (q_st_1 h _).mpr h2
      rw [h3]
      rfl
theorem s_make_succ (x j : Nat) : s_make P x C (j + 1) = s_make1 P x (s_make P x C j) j := by unfold s_make; rw [List.range_succ, List.foldl_append]; rfl
theorem fallen_make1 (x j : Nat) : C 2 0 ≤ s_make1 P x C j 2 0 := by
  unfold s_make1
  split
  · split
    · rw [undo_2]; omega
    · rw [w_put_other _ (Or.inl (by decide)), w_put_other _ (Or.inl (by decide))]; exact Nat.le_refl _
  · exact Nat.le_refl _
theorem fallen_make (x : Nat) : ∀ j, C 2 0 ≤ s_make P x C j 2 0 := by
  intro j
  induction j with
  | zero => exact Nat.le_refl _
  | succ j ih => rw [s_make_succ]; exact Nat.le_trans ih (fallen_make1 x j)
end
section
variable {Ω : w_O} {d u v : Nat} {L : w_L} {E : w_E} {P Y C : w_R} {I : w_I} {σ : w_Z} {t : Nat}
theorem FrD.mp {I' : w_I} (h : FrD t I I') (hM : MP P I) : MP P I' := hM.of (fun i _ _ => h.1 i (by omega))
theorem mk_l2 {x dd : Nat} (hE : w_fit d E) (ht : t < 3) (hP : s_POK P) (hx : x < 12) (hH : HI P (mb P dd x) C) (hC : COK C) (hd : C 0 0 = dd) : ∀ (n j : Nat) (I : w_I), j + n = P 6 0 → MP P I → MD t P (s_make P x C j) I →
    (∀ I' y, MD t P (s_make P x C (P 6 0)) I' → FrD t I I' → V mX8_make E Ω 0 0 (SH u v) I' L 119 [(0, .ref (Ω.1 + 63)), (1, .int (nI t)), (2, .int (nI x)), (3, .int (nI (s_make P x C (P 6 0) 2 0 - C 2 0))), (4, .int (nI y))] []) →
    V mX8_make E Ω 0 0 (SH u v) I L 5 [(0, .ref (Ω.1 + 63)), (1, .int (nI t)), (2, .int (nI x)), (3, .int (nI (s_make P x C j 2 0 - C 2 0))), (4, .int (nI j))] [] := by
  have h12 := hP.2.2.2.2.1
  have h6 := hP.1.2
  intro n
  induction n with
  | zero =>
    intro j I hj hMP hM hk
    have e : j = P 6 0 := by omega
    subst e
    refine V_iload 5 4 dX8_make_5 rfl ?_
    refine V_aload_n 7 0 dX8_make_7 rfl ?_
    refine V_getR 8 flX8_7 dX8_make_8 rfl ?_
    refine V_cst 11 2 dX8_make_11 rfl ?_
    refine V_iald 12 dX8_make_12 rfl (by omega) (by omega) ?_
    rw [hMP.2.2.1]
    refine V_cN_ge 13 119 dX8_make_13 (by decide) (by omega) (by omega) (fun c => ?_) (fun c => ?_)
    · exact hk I _ hM FrD.rf
    · omega
  | succ n ih =>
    intro j I hj hMP hM hk
    have hjp : j < P 6 0 := by omega
    obtain ⟨q1, q2, q3, q4, q5, q6⟩ := hP.2.2.2.2.2 j hjp
    obtain ⟨i1, i2, i3⟩ := hH.makes (x := x) hP hC hd j (by omega)
    obtain ⟨p7, p8, p9, p10, p11⟩ := hMP.2.2.2.2.2 j hjp
    obtain ⟨m0, m1, m2⟩ := hM
    have hdd : dd < 1000000 := by rw [← hd]; exact hC.1
    have hfm := fallen_make (P := P) (C := C) x j
    refine V_iload 5 4 dX8_make_5 rfl ?_
    refine V_aload_n 7 0 dX8_make_7 rfl ?_
    refine V_getR 8 flX8_7 dX8_make_8 rfl ?_
    refine V_cst 11 2 dX8_make_11 rfl ?_
    refine V_iald 12 dX8_make_12 rfl (by omega) (by omega) ?_
    rw [hMP.2.2.1]
    refine V_cN_ge 13 119 dX8_make_13 (by decide) (by omega) (by omega) (fun c => ?_) (fun c => ?_)
    · omega
    -- not made now
    have no : ¬ (P 9 j = dd ∧ P 10 j = x) → V mX8_make E Ω 0 0 (SH u v) I L 113 [(0, .ref (Ω.1 + 63)), (1, .int (nI t)), (2, .int (nI x)), (3, .int (nI (s_make P x C j 2 0 - C 2 0))), (4, .int (nI j))] [] := by
      intro h
      have e2 : s_make P x C (j + 1) = s_make P x C j := by
        rw [s_make_succ]
        unfold s_make1
        rw [i3, if_neg h]
      refine V_inc 113 4 _ [(0, _), (1, _), (2, _), (3, _), (4, _)] dX8_make_113 rfl rfl rfl (by decide) rfl ?_
      refine V_goto 116 5 dX8_make_116 (by decide) ?_
      rw [← e2]
      exact ih (j + 1) I (by omega) hMP (by rw [e2]; exact ⟨m0, m1, m2⟩) hk
    refine V_aload_n 16 0 dX8_make_16 rfl ?_
    refine V_getR 17 flX8_31 dX8_make_17 rfl ?_
    refine V_iload 20 4 dX8_make_20 rfl ?_
    refine V_iald 22 dX8_make_22 rfl (by omega) (by omega) ?_
    refine V_aload_n 23 0 dX8_make_23 rfl ?_
    refine V_getR 24 flX8_62 dX8_make_24 rfl ?_
    refine V_iload_n 27 1 dX8_make_27 rfl ?_
    refine V_iald 28 dX8_make_28 rfl (by omega) (by omega) ?_
    rw [p9, m0, i3]
    refine V_cN_ne 29 113 dX8_make_29 (by decide) (by omega) (by omega) (fun c1 => ?_) (fun c1 => ?_)
    · exact no (fun h => c1 h.1)
    refine V_aload_n 32 0 dX8_make_32 rfl ?_
    refine V_getR 33 flX8_34 dX8_make_33 rfl ?_
    refine V_iload 36 4 dX8_make_36 rfl ?_
    refine V_iald 38 dX8_make_38 rfl (by omega) (by omega) ?_
    refine V_iload_n 39 2 dX8_make_39 rfl ?_
    rw [p10]
    refine V_cN_eq 40 46 dX8_make_40 (by decide) (by omega) (by omega) (fun c2 => ?_) (fun c2 => ?_)
    rotate_left
    · refine V_goto 43 113 dX8_make_43 (by decide) ?_
      exact no (fun h => c2 h.2)
    have hnD : ¬ (mb P dd x j ∨ (j < j ∧ P 9 j = dd ∧ P 10 j = x)) := by
      rintro (⟨_, h⟩ | ⟨h, -⟩) <;> omega
    have n4 : (s_make P x C j 4 0).testBit j = false := by
      cases h1 : (s_make P x C j 4 0).testBit j
      · rfl
      · exact absurd ((i1 j).1 h1).1 hnD
    refine V_aload_n 46 0 dX8_make_46 rfl ?_
    refine V_iload_n 47 1 dX8_make_47 rfl ?_
    refine V_iload 48 4 dX8_make_48 rfl ?_
    refine V_vi 50 mvX8_261 dX8_make_50 ⟨_, _, _, rfl, rfl, rfl⟩ (w_fit.mono (by omega) hE) (m_leansWell (d := d) (C := s_make P x C j) ht hP hjp hMP (fun q hq => (m2 q hq).1)) rfl (Nat.le_of_ble_eq_true rfl) ?_
    rintro _ _ _ _ ⟨rfl, rfl, rfl, rfl⟩
    by_cases hl : m_lw P (s_make P x C j) j 0 (P 6 0) = true
    · rw [if_pos hl]
      have hl0 := (m_lw_mk hP hjp i1).mp hl
      have e2 : s_make P x C (j + 1) = w_put (w_put (s_make P x C j) 3 0 (s_make P x C j 3 0 ||| 2 ^ j)) 9 j (2 ^ P 7 j ||| 2 ^ P 8 j) := by
        rw [s_make_succ]
        conv => lhs; unfold s_make1
        rw [i3, if_pos ⟨c1, c2⟩, if_neg (fun e => e hl0)]
      have e22 : s_make P x C (j + 1) 2 0 = s_make P x C j 2 0 := by rw [e2, w_put_other _ (Or.inl (by decide)), w_put_other _ (Or.inl (by decide))]
      refine V_zN_eq 53 103 dX8_make_53 (by decide) (by omega) (fun c3 => ?_) (fun c3 => ?_)
      · exact absurd c3 (by decide)
      refine V_aload_n 56 0 dX8_make_56 rfl ?_
      refine V_getR 57 flX8_68 dX8_make_57 rfl ?_
      refine V_bip 60 12 dX8_make_60 rfl ?_
      refine V_iload_n 62 1 dX8_make_62 rfl ?_
      refine V_mul 63 dX8_make_63 ?_
      refine V_iload 64 4 dX8_make_64 rfl ?_
      refine V_add 66 dX8_make_66 ?_
      refine V_cst 67 1 dX8_make_67 rfl ?_
      refine V_iast 68 dX8_make_68 rfl (by omega) (by omega) ?_
      refine V_aload_n 69 0 dX8_make_69 rfl ?_
      refine V_getR 70 flX8_77 dX8_make_70 rfl ?_
      refine V_bip 73 12 dX8_make_73 rfl ?_
      refine V_iload_n 75 1 dX8_make_75 rfl ?_
      refine V_mul 76 dX8_make_76 ?_
      refine V_iload 77 4 dX8_make_77 rfl ?_
      refine V_add 79 dX8_make_79 ?_
      refine V_cst 80 1 dX8_make_80 rfl ?_
      refine V_aload_n 81 0 dX8_make_81 rfl ?_
      refine V_getR 82 flX8_25 dX8_make_82 rfl ?_
      refine V_iload 85 4 dX8_make_85 rfl ?_
      refine V_iald 87 dX8_make_87 rfl (by omega) (by omega) ?_
      rw [w_put_ne I 69 (by decide), p7]
      refine V_shl 88 dX8_make_88 (by omega) ?_
      refine V_cst 89 1 dX8_make_89 rfl ?_
      refine V_aload_n 90 0 dX8_make_90 rfl ?_
      refine V_getR 91 flX8_28 dX8_make_91 rfl ?_
      refine V_iload 94 4 dX8_make_94 rfl ?_
      refine V_iald 96 dX8_make_96 rfl (by omega) (by omega) ?_
      rw [w_put_ne I 70 (by decide), p8]
      refine V_shl 97 dX8_make_97 (by omega) ?_
      refine V_or 98 dX8_make_98 ?_
      refine V_iast 99 dX8_make_99 rfl (by omega) (by omega) ?_
      refine V_goto 100 113 dX8_make_100 (by decide) ?_
      refine V_inc 113 4 _ [(0, _), (1, _), (2, _), (3, _), (4, _)] dX8_make_113 rfl rfl rfl (by decide) rfl ?_
      refine V_goto 116 5 dX8_make_116 (by decide) ?_
      rw [Nat.one_mul, Nat.one_mul, ← e22]
      have hf : FrD t I (w_put (w_put I 82 (12 * t + j) 1) 85 (12 * t + j) (2 ^ P 7 j ||| 2 ^ P 8 j)) := (FrD.rf.put (by decide) (by decide) (by omega) (by omega)).put (by decide) (by decide) (by omega) (by omega)
      refine ih (j + 1) _ (by omega) (hf.mp hMP) ⟨?_, ?_, fun q hq => ?_⟩ (fun I' y k1 k2 => hk I' y k1 (hf.trans k2))
      · rw [w_put_ne _ _ (by decide), w_put_ne _ _ (by decide), m0, e2, w_put_other _ (Or.inl (by decide)), w_put_other _ (Or.inl (by decide))]
      · rw [w_put_ne _ _ (by decide), w_put_ne _ _ (by decide), m1, e2, w_put_other _ (Or.inl (by decide)), w_put_other _ (Or.inl (by decide))]
      · obtain ⟨a1, a2, a3, a4, a5⟩ := m2 q hq
        have eq : q_st (s_make P x C (j + 1)) q = if q = j then 1 else q_st (s_make P x C j) q := by
          rw [e2]
          unfold q_st
          rw [w_put_other _ (Or.inl (show 4 ≠ 9 by decide)), w_put_other _ (Or.inl (show 4 ≠ 3 by decide)), w_put_other _ (Or.inl (show 3 ≠ 9 by decide)), w_put_same, Nat.testBit_or, tb_p]
          by_cases e : q = j
          · subst e; rw [n4]; simp
          · have e3 : ¬ j = q := fun h => e h.symm
            simp [e, e3]
        rw [eq, e2]
        by_cases e : q = j
        · subst e
          simp [w_put_eq]
          exact ⟨a2, a3, a5⟩
        · have e3 : ¬ (12 * t + q = 12 * t + j) := by omega
          simp [w_put_eq, e, e3]
          exact ⟨a1, a2, a3, a4, a5⟩
    · rw [if_neg hl]
      have hl0 : P 11 j &&& (s_make P x C j 3 0 ^^^ mI) ≠ 0 := fun e => hl ((m_lw_mk hP hjp i1).mpr e)
      have e2 : s_make P x C (j + 1) = s_undo (s_make P x C j) j := by
        rw [s_make_succ]
        conv => lhs; unfold s_make1
        rw [i3, if_pos ⟨c1, c2⟩, if_pos hl0]
      have e22 : s_make P x C (j + 1) 2 0 = s_make P x C j 2 0 + 1 := by rw [e2, undo_2]
      refine V_zN_eq 53 103 dX8_make_53 (by decide) (by omega) (fun c3 => ?_) (fun c3 => ?_)
      rotate_left
      · exact absurd rfl c3
      refine V_aload_n 103 0 dX8_make_103 rfl ?_
      refine V_iload_n 104 1 dX8_make_104 rfl ?_
      refine V_iload 105 4 dX8_make_105 rfl ?_
      refine V_vv 107 mvX8_265 dX8_make_107 ⟨_, _, _, rfl, rfl, rfl⟩ (w_fit.mono (by omega) hE) (m_undo (d := d) ht hP hjp i2 ⟨m0, m1, m2⟩) rfl (Nat.le_of_ble_eq_true rfl) ?_
      rintro _ I1 _ ⟨rfl, rfl, k1, k2⟩
      refine V_inc 110 3 _ [(0, _), (1, _), (2, _), (3, _), (4, _)] dX8_make_110 rfl rfl rfl (by decide) rfl ?_
      refine V_inc 113 4 _ [(0, _), (1, _), (2, _), (3, _), (4, _)] dX8_make_113 rfl rfl rfl (by decide) rfl ?_
      refine V_goto 116 5 dX8_make_116 (by decide) ?_
      rw [show s_make P x C j 2 0 - C 2 0 + 1 = s_make P x C (j + 1) 2 0 - C 2 0 by omega]
      exact ih (j + 1) I1 (by omega) (k2.mp hMP) (by rw [e2]; exact k1) (fun I' y k3 k4 => hk I' y k3 (k2.trans k4))
theorem m_make {x dd : Nat} (ht : t < 3) (hP : s_POK P) (hx : x < 12) (hH : HI P (mb P dd x) C) (hC : COK C) (hd : C 0 0 = dd) (hMP : MP P I) (hM : MD t P C I) : FnI Ω (d + 1) mX8_make [.ref (Ω.1 + 63), .int (nI t), .int (nI x)] (SH u v) I L (fun r S' I' L' => r = nI (s_make P x C (P 6 0) 2 0 - C 2 0) ∧ S' = SH u v ∧ L = L' ∧ MD t P (s_make P x C (P 6 0)) I' ∧ FrD t I I') := by
  refine FnR_of okX8_make (Nat.le_of_ble_eq_true rfl) fun l z => ?_
  show V _ _ _ _ _ _ _ _ 0 [(0, _), (1, _), (2, _)] []
  refine V_cst 0 0 dX8_make_0 rfl ?_
  refine V_istore_n 1 [(0, _), (1, _), (2, _), (3, _)] dX8_make_1 (by decide) rfl ?_
  refine V_cst 2 0 dX8_make_2 rfl ?_
  refine V_istore 3 [(0, _), (1, _), (2, _), (3, _), (4, _)] dX8_make_3 (by decide) rfl ?_
  have h0 : (0 : Nat) = s_make P x C 0 2 0 - C 2 0 := by show 0 = C 2 0 - C 2 0; omega
  have hh := mk_l2 (d := d) (Ω := Ω) (u := u) (v := v) (L := L) (E := w_Er l (d + 1) 0 0 Ω (w_pi (fun r S' I' L' => r = nI (s_make P x C (P 6 0) 2 0 - C 2 0) ∧ S' = SH u v ∧ L = L' ∧ MD t P (s_make P x C (P 6 0)) I' ∧ FrD t I I')) z) w_fit_r ht hP hx hH hC hd (P 6 0) 0 I (by omega) hMP hM (fun I' y k1 k2 => by
    refine V_iload_n 119 3 dX8_make_119 rfl ?_
    exact V_iret 120 dX8_make_120 rfl ⟨rfl, rfl, rfl, k1, k2⟩)
  rw [← h0] at hh
  exact hh
end
