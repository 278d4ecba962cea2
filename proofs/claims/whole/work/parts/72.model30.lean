section
variable {Ω : w_O} {d u v : Nat} {L : w_L} {E : w_E} {P Y : w_R} {σ : w_Z}
theorem tale_B {w p m : Nat} (hO : SOK σ) (hp : p < σ 0 6 0) (hm : m < 1200) : q_tale σ w p m ≠ 0 ↔ (y_B (σ 0) p (m + 1)).testBit w = true := by
  have hB := y_F_B hO.1 hp (m := m) (w := w) hm
  have hF := t_F_iff (P := σ 0) (Y := σ 1) (p := p) (C0 := s_new) (m := m) (w := w) hm 1200 (Nat.le_refl _)
  unfold q_tale
  by_cases h1 : t_F (σ 0) (σ 1) s_new 1200 p w ≤ m
  · rw [if_pos h1]
    obtain ⟨s, a, b, e⟩ := hF.mp h1
    exact ⟨fun _ => heard_may hp rfl rfl rfl b e, fun _ => by decide⟩
  · rw [if_neg h1]
    by_cases h2 : y_F (σ 0) p (y_N (σ 0) p) w ≤ m
    · rw [if_pos h2]
      exact ⟨fun _ => hB.mp h2, fun _ => by decide⟩
    · rw [if_neg h2]
      exact ⟨fun h => absurd rfl h, fun h => absurd (hB.mpr h) h2⟩
theorem lk_l {w p dd hr X np : Nat} {I : w_I} (hnp : np ≤ 6) (hX : X < 2 ^ np) (h0 : X ≠ 0) : ∀ (n q : Nat), q + n = np → (∀ i, i < q → X.testBit i = false) →
    (∀ q', q' < 6 → y_first (fun w => X.testBit w) q n = q' → V mX8_lacks E Ω 0 0 (SH u v) I L 69 [(0, .ref (Ω.1 + 63)), (1, .int (nI w)), (2, .int (nI p)), (3, .int (nI dd)), (4, .int (nI hr)), (5, .int (nI X)), (6, .int (nI q'))] []) →
    V mX8_lacks E Ω 0 0 (SH u v) I L 53 [(0, .ref (Ω.1 + 63)), (1, .int (nI w)), (2, .int (nI p)), (3, .int (nI dd)), (4, .int (nI hr)), (5, .int (nI X)), (6, .int (nI q))] [] := by
  have hX64 : X < 64 := Nat.lt_of_lt_of_le hX (Nat.pow_le_pow_right (by decide) hnp)
  intro n
  induction n with
  | zero =>
    intro q hq hno hk
    exfalso
    apply h0
    apply Nat.eq_of_testBit_eq
    intro i
    rw [Nat.zero_testBit]
    by_cases hi : i < q
    · exact hno i hi
    · exact Nat.testBit_lt_two_pow (Nat.lt_of_lt_of_le hX (Nat.pow_le_pow_right (by decide) (by omega)))
  | succ n ih =>
    intro q hq hno hk
    refine V_iload 53 5 dX8_lacks_53 rfl ?_
    refine V_iload 55 6 dX8_lacks_55 rfl ?_
    refine V_shr 57 dX8_lacks_57 (by omega) (by omega) ?_
    refine V_cst 58 1 dX8_lacks_58 rfl ?_
    refine V_and 59 dX8_lacks_59 ?_
    rw [bit01]
    have ef : y_first (fun w => X.testBit w) q (n + 1) = if X.testBit q then q else y_first (fun w => X.testBit w) (q + 1) n := rfl
    cases hb : X.testBit q
    · rw [hb, if_neg (by decide)] at ef
      rw [if_neg (by decide)]
      refine V_zN_ne 60 69 dX8_lacks_60 (by decide) (by omega) (fun c => ?_) (fun c => ?_)
      · exact absurd rfl c
      refine V_inc 63 6 _ [(0, _), (1, _), (2, _), (3, _), (4, _), (5, _), (6, _)] dX8_lacks_63 rfl rfl rfl (by decide) rfl ?_
      refine V_goto 66 53 dX8_lacks_66 (by decide) ?_
      refine ih (q + 1) (by omega) (fun i hi => ?_) (by rw [← ef]; exact hk)
      by_cases e : i = q
      · rw [e]; exact hb
      · exact hno i (by omega)
    · rw [hb, if_pos rfl] at ef
      rw [if_pos rfl]
      refine V_zN_ne 60 69 dX8_lacks_60 (by decide) (by omega) (fun c => ?_) (fun c => ?_)
      rotate_left
      · exact absurd c (by decide)
      exact hk q (by omega) ef
theorem y_first_no {f : Nat → Bool} : ∀ (n w : Nat), (∀ i, w ≤ i → i < w + n → f i = false) → y_first f w n = mI := by
  intro n
  induction n with
  | zero => intro w _; rfl
  | succ n ih =>
    intro w h
    show (if f w then w else y_first f (w + 1) n) = mI
    rw [h w (Nat.le_refl _) (by omega), if_neg (by decide)]
    exact ih (w + 1) (fun i a b => h i (by omega) (by omega))
theorem m_lacks {I : w_I} {w p dd hr : Nat} (hw : w < 4294967296) (hp : p < 4294967296) (hd : dd < 4294967296) (hh : hr < 4294967296) (hO : SOK σ) (hM : MInv σ I) : FnI Ω (d + 4) mX8_lacks [.ref (Ω.1 + 63), .int (nI w), .int (nI p), .int (nI dd), .int (nI hr)] (SH u v) I L (MO u v L I σ (if w < σ 0 0 0 ∧ p < σ 0 6 0 ∧ dd < 100 ∧ hr < 12 then 0 else 1) (q_lacks σ w p (dd * 12 + hr))) := by
  have hM1 : MInv σ (w_put I 63 0 0) := hM.code
  have h6 := hO.1.1.2
  have hJ : FrM I (w_put I 63 0 0) := FrM.rf.put (by decide) (by decide)
  have c0 : w_put I 63 0 0 63 0 = 0 := w_put_same _ _ _ _
  refine FnR_of1 okX8_lacks (Nat.le_of_ble_eq_true rfl) fun l z hE => ?_
  show V _ _ _ _ _ _ _ _ 0 [(0, _), (1, _), (2, _), (3, _), (4, _)] []
  refine V_aload_n 0 0 dX8_lacks_0 rfl ?_
  refine V_cst 1 0 dX8_lacks_1 rfl ?_
  refine V_putI 2 flX8_128 ft_8_0 dX8_lacks_2 rfl ?_
  refine V_aload_n 5 0 dX8_lacks_5 rfl ?_
  refine V_iload_n 6 1 dX8_lacks_6 rfl ?_
  refine V_iload_n 7 2 dX8_lacks_7 rfl ?_
  refine V_iload_n 8 3 dX8_lacks_8 rfl ?_
  refine V_iload 9 4 dX8_lacks_9 rfl ?_
  generalize w_put I 63 0 0 = J at hM1 hJ c0 ⊢
  refine V_vi 11 mvX8_359 dX8_lacks_11 ⟨_, _, _, rfl, rfl, rfl⟩ (w_fit.mono (by omega) hE) (m_isTale (d := d) hw hp hd hh hO.1 hM1.1) rfl (Nat.le_of_ble_eq_true rfl) ?_
  rintro _ _ _ _ ⟨rfl, rfl, rfl, rfl⟩
  by_cases h : w < σ 0 0 0 ∧ p < σ 0 6 0 ∧ dd < 100 ∧ hr < 12
  rotate_left
  · rw [if_neg h, if_neg h]
    refine V_zN_ne 14 23 dX8_lacks_14 (by decide) (by omega) (fun c => ?_) (fun c => ?_)
    · exact absurd rfl c
    refine V_aload_n 17 0 dX8_lacks_17 rfl ?_
    refine V_cst 18 1 dX8_lacks_18 rfl ?_
    refine V_vi 19 mvX8_232 dX8_lacks_19 ⟨_, _, _, rfl, rfl, rfl⟩ (w_fit.mono (by omega) hE) (m_fail (d := d) (x := 1)) rfl (Nat.le_of_ble_eq_true rfl) ?_
    rintro _ _ _ _ ⟨rfl, rfl, rfl, rfl⟩
    exact V_iret 22 dX8_lacks_22 rfl ⟨rfl, rfl, w_put_same _ _ _ _, fun e => absurd e (by decide), hM1.code, hJ.put (by decide) (by decide)⟩
  rw [if_pos h, if_pos h]
  obtain ⟨g1, g2, g3, g4⟩ := h
  have hT := tale_B (w := w) hO g2 (m := dd * 12 + hr) (by omega)
  have hfun : (fun w => decide (y_F (σ 0) p (y_N (σ 0) p) w ≤ dd * 12 + hr)) = fun w => (y_B (σ 0) p (dd * 12 + hr + 1)).testBit w := by
    funext w
    have := y_F_B hO.1 g2 (m := dd * 12 + hr) (w := w) (by omega)
    cases hb : (y_B (σ 0) p (dd * 12 + hr + 1)).testBit w
    · rw [hb] at this
      exact decide_eq_false (fun q => absurd (this.mp q) (by decide))
    · rw [hb] at this
      exact decide_eq_true (this.mpr rfl)
  have hlt2 := y_B_lt hO.1 g2 (dd * 12 + hr + 1)
  have hlt : y_B (σ 0) p (dd * 12 + hr + 1) < 64 := Nat.lt_of_lt_of_le hlt2 (Nat.pow_le_pow_right (by decide) h6)
  have hq : q_lacks σ w p (dd * 12 + hr) = if q_tale σ w p (dd * 12 + hr) ≠ 0 then mI else y_first (fun w => (y_B (σ 0) p (dd * 12 + hr + 1)).testBit w) 0 (σ 0 0 0) := by unfold q_lacks; rw [hfun]
  refine V_zN_ne 14 23 dX8_lacks_14 (by decide) (by omega) (fun c => ?_) (fun c => ?_)
  rotate_left
  · exact absurd c (by decide)
  refine V_aload_n 23 0 dX8_lacks_23 rfl ?_
  refine V_iload_n 24 2 dX8_lacks_24 rfl ?_
  refine V_iload_n 25 3 dX8_lacks_25 rfl ?_
  refine V_iload 26 4 dX8_lacks_26 rfl ?_
  refine V_vi 28 mvX8_363 dX8_lacks_28 ⟨_, _, _, rfl, rfl, rfl⟩ (w_fit.mono (by omega) hE) (m_mayOf (d := d) hO.1 g2 hM1.1 g4 g3) rfl (Nat.le_of_ble_eq_true rfl) ?_
  rintro _ _ _ _ ⟨rfl, rfl, rfl, rfl⟩
  generalize y_B (σ 0) p (dd * 12 + hr + 1) = X at hT hlt hlt2 hq ⊢
  refine V_istore 31 [(0, _), (1, _), (2, _), (3, _), (4, _), (5, _)] dX8_lacks_31 (by decide) rfl ?_
  refine V_iload 33 5 dX8_lacks_33 rfl ?_
  refine V_zN_eq 35 48 dX8_lacks_35 (by decide) (by omega) (fun c1 => ?_) (fun c1 => ?_)
  · refine V_cst 48 4294967295 dX8_lacks_48 rfl ?_
    refine V_iret 49 dX8_lacks_49 rfl ⟨rfl, rfl, c0, fun _ => ?_, hM1, hJ⟩
    rw [hq]
    split
    · rfl
    · rw [y_first_no _ _ (fun i _ _ => by rw [c1, Nat.zero_testBit])]
  refine V_iload 38 5 dX8_lacks_38 rfl ?_
  refine V_iload_n 40 1 dX8_lacks_40 rfl ?_
  refine V_shr 41 dX8_lacks_41 (by omega) (by omega) ?_
  refine V_cst 42 1 dX8_lacks_42 rfl ?_
  refine V_and 43 dX8_lacks_43 ?_
  refine V_cst 44 1 dX8_lacks_44 rfl ?_
  rw [bit01]
  cases hb : X.testBit w
  · rw [hb] at hT
    rw [if_neg (by decide)]
    refine V_cN_ne 45 50 dX8_lacks_45 (by decide) (by omega) (by omega) (fun c2 => ?_) (fun c2 => ?_)
    rotate_left
    · exact absurd c2 (by decide)
    refine V_cst 50 0 dX8_lacks_50 rfl ?_
    refine V_istore 51 [(0, _), (1, _), (2, _), (3, _), (4, _), (5, _), (6, _)] dX8_lacks_51 (by decide) rfl ?_
    refine lk_l h6 hlt2 c1 (σ 0 0 0) 0 (by omega) (fun i hi => absurd hi (Nat.not_lt_zero _)) (fun q' hq6 he => ?_)
    refine V_iload 69 6 dX8_lacks_69 rfl ?_
    refine V_iret 71 dX8_lacks_71 rfl ⟨rfl, rfl, c0, fun _ => ?_, hM1, hJ⟩
    rw [hq, if_neg (fun q => absurd (hT.mp q) (by decide)), he]
  · rw [hb] at hT
    rw [if_pos rfl]
    refine V_cN_ne 45 50 dX8_lacks_45 (by decide) (by omega) (by omega) (fun c2 => ?_) (fun c2 => ?_)
    · exact absurd rfl c2
    refine V_cst 48 4294967295 dX8_lacks_48 rfl ?_
    refine V_iret 49 dX8_lacks_49 rfl ⟨rfl, rfl, c0, fun _ => ?_, hM1, hJ⟩
    rw [hq, if_pos (hT.mpr rfl)]
end
