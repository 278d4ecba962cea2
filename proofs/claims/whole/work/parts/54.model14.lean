section
variable {Ω : w_O} {d u v : Nat} {L : w_L} {E : w_E} {P Y C : w_R} {t : Nat} {σ : w_Z}
theorem HI.hd {D : Nat → Prop} (h : HI P D C) : HD P D C := fun p => ⟨(h p).1, (h p).2.1, (h p).2.2.1, (h p).2.2.2.2⟩
theorem hours_succ (C : w_R) (h : Nat) : (List.range (h + 1)).foldl (s_hour P Y) C = s_hour P Y ((List.range h).foldl (s_hour P Y) C) h := by rw [List.range_succ, List.foldl_append]; rfl
theorem fallen_hours2 (C : w_R) : ∀ h, C 2 0 ≤ (List.range h).foldl (s_hour P Y) C 2 0 := by
  intro h
  induction h with
  | zero => exact Nat.le_refl _
  | succ h ih => rw [hours_succ, hour_2]; exact Nat.le_trans ih (fallen_make h (P 6 0))
theorem go_l (hE : w_fit (d + 2) E) (ht : t < 3) (hP : s_POK P) (hY : s_YOK P Y) (hC : CI P C) : ∀ (n h acc : Nat) (I : w_I), h + n = 12 → acc = (List.range h).foldl (s_hour P Y) C 2 0 - C 2 0 → MP P I → MY Y I → MD t P ((List.range h).foldl (s_hour P Y) C) I →
    (∀ I', MD t P ((List.range 12).foldl (s_hour P Y) C) I' → FrD t I I' → V mX8_goOn E Ω 0 0 (SH u v) I' L 30 [(0, .ref (Ω.1 + 63)), (1, .int (nI t)), (2, .int (nI ((List.range 12).foldl (s_hour P Y) C 2 0 - C 2 0))), (3, .int (nI 12))] []) →
    V mX8_goOn E Ω 0 0 (SH u v) I L 9 [(0, .ref (Ω.1 + 63)), (1, .int (nI t)), (2, .int (nI acc)), (3, .int (nI h))] [] := by
  intro n
  induction n with
  | zero =>
    intro h acc I hh hacc hMP hMY hM hk
    have e : h = 12 := by omega
    subst e
    subst hacc
    refine V_iload_n 9 3 dX8_goOn_9 rfl ?_
    refine V_bip 10 12 dX8_goOn_10 rfl ?_
    refine V_cN_ge 12 30 dX8_goOn_12 (by decide) (by omega) (by omega) (fun c => ?_) (fun c => ?_)
    · exact hk I hM FrD.rf
    · omega
  | succ n ih =>
    intro h acc I hh hacc hMP hMY hM hk
    refine V_iload_n 9 3 dX8_goOn_9 rfl ?_
    refine V_bip 10 12 dX8_goOn_10 rfl ?_
    refine V_cN_ge 12 30 dX8_goOn_12 (by decide) (by omega) (by omega) (fun c => ?_) (fun c => ?_)
    · omega
    refine V_iload_n 15 2 dX8_goOn_15 rfl ?_
    refine V_aload_n 16 0 dX8_goOn_16 rfl ?_
    refine V_iload_n 17 1 dX8_goOn_17 rfl ?_
    refine V_iload_n 18 3 dX8_goOn_18 rfl ?_
    refine V_vi 19 mvX8_279 dX8_goOn_19 ⟨_, _, _, rfl, rfl, rfl⟩ (w_fit.mono (by omega) hE) (m_hour (d := d) (x := h) ht hP hY (by omega) (HI.hours hP hY hC.2.1 hC.1 rfl h (by omega)) (s_hours_ok hP hY hC.1 h (by omega)) (s_hours_day C h (by omega)) hMP hMY hM) rfl (Nat.le_of_ble_eq_true rfl) ?_
    rintro _ _ I1 _ ⟨rfl, rfl, rfl, k1, k2⟩
    have f1 := fallen_hours2 (P := P) (Y := Y) C h
    have f2 : (List.range h).foldl (s_hour P Y) C 2 0 ≤ s_hour P Y ((List.range h).foldl (s_hour P Y) C) h 2 0 := by rw [hour_2]; exact fallen_make h (P 6 0)
    rw [← hours_succ] at k1 f2 ⊢
    refine V_add 22 dX8_goOn_22 ?_
    refine V_istore_n 23 [(0, _), (1, _), (2, _), (3, _)] dX8_goOn_23 (by decide) rfl ?_
    refine V_inc 24 3 _ [(0, _), (1, _), (2, _), (3, _)] dX8_goOn_24 rfl rfl rfl (by decide) rfl ?_
    refine V_goto 27 9 dX8_goOn_27 (by decide) ?_
    exact ih (h + 1) _ I1 (by omega) (by omega) (k2.mp hMP) (k2.my hMY) k1 (fun I' h1 h2 => hk I' h1 (k2.trans h2))
theorem m_goOn {I : w_I} (ht : t < 3) (hP : s_POK P) (hY : s_YOK P Y) (hC : CI P C) (hMP : MP P I) (hMY : MY Y I) (hM : MC t P C I) : FnI Ω (d + 3) mX8_goOn [.ref (Ω.1 + 63), .int (nI t)] (SH u v) I L (fun r S' I' L' => r = nI (s_day P Y C 2 0 - C 2 0) ∧ S' = SH u v ∧ L = L' ∧ MC t P (s_day P Y C) I' ∧ FrD t I I') := by
  refine FnR_of1 okX8_goOn (Nat.le_of_ble_eq_true rfl) fun l z hE => ?_
  show V _ _ _ _ _ _ _ _ 0 [(0, _), (1, _)] []
  refine V_aload_n 0 0 dX8_goOn_0 rfl ?_
  refine V_iload_n 1 1 dX8_goOn_1 rfl ?_
  refine V_vv 2 mvX8_276 dX8_goOn_2 ⟨_, _, _, rfl, rfl, rfl⟩ (w_fit.mono (by omega) hE) (m_beginDay (d := d + 2) ht hP hC.2.2.1 hC.2.2.2 hM) rfl (Nat.le_of_ble_eq_true rfl) ?_
  rintro _ I1 _ ⟨rfl, rfl, k1, k2⟩
  refine V_cst 5 0 dX8_goOn_5 rfl ?_
  refine V_istore_n 6 [(0, _), (1, _), (2, _)] dX8_goOn_6 (by decide) rfl ?_
  refine V_cst 7 0 dX8_goOn_7 rfl ?_
  refine V_istore_n 8 [(0, _), (1, _), (2, _), (3, _)] dX8_goOn_8 (by decide) rfl ?_
  refine go_l hE ht hP hY hC 12 0 0 I1 (by omega) (by show 0 = C 2 0 - C 2 0; omega) (k2.mp hMP) (k2.my hMY) k1 (fun I2 h1 h2 => ?_)
  refine V_iload_n 30 2 dX8_goOn_30 rfl ?_
  refine V_aload_n 31 0 dX8_goOn_31 rfl ?_
  refine V_iload_n 32 1 dX8_goOn_32 rfl ?_
  have f1 := fallen_hours2 (P := P) (Y := Y) C 12
  refine V_vi 33 mvX8_282 dX8_goOn_33 ⟨_, _, _, rfl, rfl, rfl⟩ (w_fit.mono (by omega) hE) (m_dusk (d := d + 1) ht hP (s_hours_ok hP hY hC.1 12 (by omega)) (HI.hours hP hY hC.2.1 hC.1 rfl 12 (by omega)).hd ((k2.trans h2).mp hMP) h1) rfl (Nat.le_of_ble_eq_true rfl) ?_
  rintro _ _ I3 _ ⟨rfl, rfl, rfl, k3, k4, k5, k6⟩
  refine V_add 36 dX8_goOn_36 ?_
  refine V_iret 37 dX8_goOn_37 rfl ⟨?_, rfl, rfl, k3, (k2.trans h2).trans k4⟩
  congr 1
  show _ = s_dusk P ((List.range 12).foldl (s_hour P Y) C) 2 0 - C 2 0
  omega
/-- the first course goes on -/
theorem MInv.c {C' : w_R} {I I' : w_I} (h : MInv σ I) (hP : s_POK (σ 0)) (hf : FrD 0 I I') (hC : MC 0 (σ 0) C' I') : MInv (z_put σ 2 C') I' := by
  have h12 := hP.2.2.2.2.1
  obtain ⟨h1, h2, h3, h4, h5, h6, h7, h8⟩ := h
  have e66 : I' 63 = I 63 := hf.1 63 (by decide)
  refine ⟨hf.mp h1, hf.my h2, hC, h4.of (by rw [e66]) (hf.1 _ (by decide)), h5.of (by rw [e66]) (hf.1 _ (by decide)), h6.of (by rw [e66]) (hf.1 _ (by decide)), ?_, h8.of (by rw [e66]) (hf.1 _ (by decide))⟩
  obtain ⟨a1, a2⟩ := h7
  refine ⟨by rw [e66]; exact a1, ?_⟩
  rcases a2 with e | ⟨e, b1, b2, b3, b4⟩
  · exact Or.inl e
  · refine Or.inr ⟨e, by rw [e66]; exact b1, by rw [hf.1 98 (by decide)]; exact b2, ?_, by rw [hf.1 99 (by decide)]; exact b4⟩
    obtain ⟨c1, c2, c3⟩ := b3
    refine ⟨by rw [(hf.2.1 2 (by decide)).1]; exact c1, by rw [(hf.2.1 2 (by decide)).2]; exact c2, fun p hp => ?_⟩
    have hp' : p < σ 0 6 0 := hp
    obtain ⟨g1, g2, g3, -⟩ := hf.2.2 (12 * 2 + p) (by omega)
    rw [g1, g2, g3]
    exact c3 p hp
/-- what the second course does does not matter -/
theorem MInv.t1 {I I' : w_I} (h : MInv σ I) (hP : s_POK (σ 0)) (hf : FrD 1 I I') : MInv σ I' := by
  have h12 := hP.2.2.2.2.1
  obtain ⟨h1, h2, h3, h4, h5, h6, h7, h8⟩ := h
  have e66 : I' 63 = I 63 := hf.1 63 (by decide)
  have hm : ∀ t C, t ≠ 1 → MC t (σ 0) C I → MC t (σ 0) C I' := by
    intro t C hne hC
    obtain ⟨c1, c2, c3⟩ := hC
    refine ⟨by rw [(hf.2.1 t hne).1]; exact c1, by rw [(hf.2.1 t hne).2]; exact c2, fun p hp => ?_⟩
    obtain ⟨g1, g2, g3, -⟩ := hf.2.2 (12 * t + p) (by omega)
    rw [g1, g2, g3]
    exact c3 p hp
  refine ⟨hf.mp h1, hf.my h2, hm 0 _ (by decide) h3, h4.of (by rw [e66]) (hf.1 _ (by decide)), h5.of (by rw [e66]) (hf.1 _ (by decide)), h6.of (by rw [e66]) (hf.1 _ (by decide)), ?_, h8.of (by rw [e66]) (hf.1 _ (by decide))⟩
  obtain ⟨a1, a2⟩ := h7
  refine ⟨by rw [e66]; exact a1, ?_⟩
  rcases a2 with e | ⟨e, b1, b2, b3, b4⟩
  · exact Or.inl e
  · exact Or.inr ⟨e, by rw [e66]; exact b1, by rw [hf.1 98 (by decide)]; exact b2, hm 2 _ (by decide) b3, by rw [hf.1 99 (by decide)]; exact b4⟩
theorem FrD.fr {I I' : w_I} (h : FrD t I I') : Fr 63 100 I I' := fun i hi => h.1 i (by omega)
theorem dys_l {a : Nat} (ha : a ≤ 100) (hE : w_fit (d + 3) E) (hP : s_POK P) (hY : s_YOK P Y) (hC : CI P C) (hd : C 0 0 + 100 < 1000000) : ∀ (n g acc : Nat) (I : w_I), g + n = a → acc = t_D P Y C g 2 0 - C 2 0 → MP P I → MY Y I → MC 0 P (t_D P Y C g) I →
    (∀ I', MC 0 P (t_D P Y C a) I' → FrD 0 I I' → V mX8_days E Ω 0 0 (SH u v) I' L 44 [(0, .ref (Ω.1 + 63)), (1, .int (nI a)), (2, .int (nI (t_D P Y C a 2 0 - C 2 0))), (3, .int (nI a))] []) →
    V mX8_days E Ω 0 0 (SH u v) I L 25 [(0, .ref (Ω.1 + 63)), (1, .int (nI a)), (2, .int (nI acc)), (3, .int (nI g))] [] := by
  intro n
  induction n with
  | zero =>
    intro g acc I hg hacc hMP hMY hM hk
    have e : g = a := by omega
    subst e
    subst hacc
    refine V_iload_n 25 3 dX8_days_25 rfl ?_
    refine V_iload_n 26 1 dX8_days_26 rfl ?_
    refine V_cN_ge 27 44 dX8_days_27 (by decide) (by omega) (by omega) (fun c => ?_) (fun c => ?_)
    · exact hk I hM FrD.rf
    · omega
  | succ n ih =>
    intro g acc I hg hacc hMP hMY hM hk
    refine V_iload_n 25 3 dX8_days_25 rfl ?_
    refine V_iload_n 26 1 dX8_days_26 rfl ?_
    refine V_cN_ge 27 44 dX8_days_27 (by decide) (by omega) (by omega) (fun c => ?_) (fun c => ?_)
    · omega
    refine V_iload_n 30 2 dX8_days_30 rfl ?_
    refine V_aload_n 31 0 dX8_days_31 rfl ?_
    refine V_cst 32 0 dX8_days_32 rfl ?_
    refine V_vi 33 mvX8_285 dX8_days_33 ⟨_, _, _, rfl, rfl, rfl⟩ (w_fit.mono (by omega) hE) (m_goOn (d := d) (t := 0) (by decide) hP hY (t_D_CI2 hP hY hC g (by omega)) hMP hMY hM) rfl (Nat.le_of_ble_eq_true rfl) ?_
    rintro _ _ I1 _ ⟨rfl, rfl, rfl, k1, k2⟩
    have f1 := fallen_D (P := P) (Y := Y) C g
    have f2 := fallen_day (P := P) (Y := Y) (t_D P Y C g)
    have e1 : t_D P Y C (g + 1) = s_day P Y (t_D P Y C g) := rfl
    rw [← e1] at k1 f2 ⊢
    refine V_add 36 dX8_days_36 ?_
    refine V_istore_n 37 [(0, _), (1, _), (2, _), (3, _)] dX8_days_37 (by decide) rfl ?_
    refine V_inc 38 3 _ [(0, _), (1, _), (2, _), (3, _)] dX8_days_38 rfl rfl rfl (by decide) rfl ?_
    refine V_goto 41 25 dX8_days_41 (by decide) ?_
    exact ih (g + 1) _ I1 (by omega) (by omega) (k2.mp hMP) (k2.my hMY) k1 (fun I' h1 h2 => hk I' h1 (k2.trans h2))
theorem FrD.m {I I' : w_I} (h : FrD t I I') : FrM I I' := ⟨h.fr, by rw [h.1 63 (by decide)]; omega⟩
theorem FrM.trans0 {I I' I'' : w_I} (h : FrM I I') (hf : Fr 63 100 I' I'') (h52 : I'' 63 52 = I' 63 52) : FrM I I'' := ⟨h.1.trans hf, by rw [h52]; exact h.2⟩
theorem m_days1 {I : w_I} {a : Nat} (hO : SOK σ) (hM : MInv σ I) (ha : a ≤ 100) (hd : σ 2 0 0 + 100 < 1000000) : FnI Ω (d + 4) mX8_days [.ref (Ω.1 + 63), .int (nI a)] (SH u v) I L (MO u v L I (z_days σ a) 0 (t_D (σ 0) (σ 1) (σ 2) a 2 0 - σ 2 2 0)) := by
  have hM1 : MInv σ (w_put I 63 0 0) := hM.code
  have hmI : mI = 4294967295 := rfl
  refine FnR_of1 okX8_days (Nat.le_of_ble_eq_true rfl) fun l z hE => ?_
  show V _ _ _ _ _ _ _ _ 0 [(0, _), (1, _)] []
  refine V_aload_n 0 0 dX8_days_0 rfl ?_
  refine V_cst 1 0 dX8_days_1 rfl ?_
  refine V_putI 2 flX8_128 ft_8_0 dX8_days_2 rfl ?_
  refine V_iload_n 5 1 dX8_days_5 rfl ?_
  refine V_cst 6 0 dX8_days_6 rfl ?_
  refine V_bip 7 100 dX8_days_7 rfl ?_
  refine V_si 9 msX8_131 dX8_days_9 (w_fit.mono (by omega) hE) (m_isIn (d := d + 3) (a := a) (lo := 0) (hi := 100) (by omega) (by decide) (by decide)) rfl (Nat.le_of_ble_eq_true rfl) ?_
  rintro _ _ _ _ ⟨rfl, rfl, rfl, rfl⟩
  rw [if_pos (by rw [sgn_s (by omega), sgn_s (by omega), sgn_s (by omega)]; omega)]
  refine V_zN_ne 12 21 dX8_days_12 (by decide) (by omega) (fun c => ?_) (fun c => ?_)
  rotate_left
  · exact absurd c (by decide)
  refine V_cst 21 0 dX8_days_21 rfl ?_
  refine V_istore_n 22 [(0, _), (1, _), (2, _)] dX8_days_22 (by decide) rfl ?_
  refine V_cst 23 0 dX8_days_23 rfl ?_
  refine V_istore_n 24 [(0, _), (1, _), (2, _), (3, _)] dX8_days_24 (by decide) rfl ?_
  refine dys_l ha hE hO.1 hO.2.1 hO.2.2.1 hd a 0 0 _ (by omega) (by show 0 = σ 2 2 0 - σ 2 2 0; omega) hM1.1 hM1.2.1 hM1.2.2.1 (fun I' h1 h2 => ?_)
  refine V_iload_n 44 2 dX8_days_44 rfl ?_
  have hC : MC 0 (σ 0) (w_put (t_D (σ 0) (σ 1) (σ 2) a) 6 0 0) I' := by
    obtain ⟨c1, c2, c3⟩ := h1
    refine ⟨c1, c2, fun p hp => ?_⟩
    exact c3 p hp
  refine V_iret 45 dX8_days_45 rfl ⟨rfl, rfl, ?_, fun _ => rfl, hM1.c hO.1 h2 hC, (FrM.rf.put (by decide) (by decide)).trans0 h2.fr (by rw [h2.1 63 (by decide)])⟩
  rw [h2.1 63 (by decide), w_put_same]
theorem m_days0 {I : w_I} {a : Nat} (h32 : a < 4294967296) (hM : MInv σ I) (ha : ¬ a ≤ 100) : FnI Ω (d + 1) mX8_days [.ref (Ω.1 + 63), .int (nI a)] (SH u v) I L (MO u v L I σ 1 0) := by
  have hM1 : MInv σ (w_put I 63 0 0) := hM.code
  refine FnR_of1 okX8_days (Nat.le_of_ble_eq_true rfl) fun l z hE => ?_
  show V _ _ _ _ _ _ _ _ 0 [(0, _), (1, _)] []
  refine V_aload_n 0 0 dX8_days_0 rfl ?_
  refine V_cst 1 0 dX8_days_1 rfl ?_
  refine V_putI 2 flX8_128 ft_8_0 dX8_days_2 rfl ?_
  refine V_iload_n 5 1 dX8_days_5 rfl ?_
  refine V_cst 6 0 dX8_days_6 rfl ?_
  refine V_bip 7 100 dX8_days_7 rfl ?_
  refine V_si 9 msX8_131 dX8_days_9 (w_fit.mono (by omega) hE) (m_isIn (d := d) (a := a) (lo := 0) (hi := 100) h32 (by decide) (by decide)) rfl (Nat.le_of_ble_eq_true rfl) ?_
  rintro _ _ _ _ ⟨rfl, rfl, rfl, rfl⟩
  rw [if_neg (by rw [sgn_s (x := 0) (by omega), sgn_s (x := 100) (by omega)]; unfold sgn; split <;> omega)]
  refine V_zN_ne 12 21 dX8_days_12 (by decide) (by omega) (fun c => ?_) (fun c => ?_)
  · exact absurd rfl c
  refine V_aload_n 15 0 dX8_days_15 rfl ?_
  refine V_cst 16 1 dX8_days_16 rfl ?_
  refine V_vi 17 mvX8_232 dX8_days_17 ⟨_, _, _, rfl, rfl, rfl⟩ (w_fit.mono (by omega) hE) (m_fail (d := d) (x := 1)) rfl (Nat.le_of_ble_eq_true rfl) ?_
  rintro _ _ _ _ ⟨rfl, rfl, rfl, rfl⟩
  exact V_iret 20 dX8_days_20 rfl ⟨rfl, rfl, w_put_same _ _ _ _, fun e => absurd e (by decide), hM1.code, (FrM.rf.put (by decide) (by decide)).put (by decide) (by decide)⟩
end
