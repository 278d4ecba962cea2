section
variable {Ω : w_O} {d u v : Nat} {L : w_L} {E : w_E} {P Y : w_R} {t : Nat}
theorem MD.sp {C : w_R} {I : w_I} (h : MD t P C I) (x : Nat) : MD t P (w_put C 6 0 x) I := by
  obtain ⟨m0, m1, m2⟩ := h
  have e : ∀ k j, k ≠ 6 → w_put C 6 0 x k j = C k j := fun k j hk => w_put_other C (Or.inl hk)
  refine ⟨by rw [e 0 0 (by decide)]; exact m0, by rw [e 1 0 (by decide)]; exact m1, fun p hp => ?_⟩
  rw [q_st_of (C := C) (e 3 0 (by decide)) (e 4 0 (by decide)), e 7 p (by decide), e 8 p (by decide), e 9 p (by decide), e 5 0 (by decide)]
  exact m2 p hp
theorem says_keep {D : Nat → Prop} {C : w_R} (hP : s_POK P) (hY : s_YOK P Y) (m : Nat) (hH : HI P D C) (hC : COK C) : HI P D ((s_sm Y m).foldl (s_say P Y) C) ∧ COK ((s_sm Y m).foldl (s_say P Y) C) := by
  have h12 := hP.2.2.2.2.1
  refine foldl_ind (J := fun C => HI P D C ∧ COK C) _ _ ⟨hH, hC⟩ (fun C s hs h => ?_)
  simp only [s_sm, List.mem_filter, List.mem_range, beq_iff_eq] at hs
  obtain ⟨-, y2, -, y4⟩ := hY.2 s hs.1
  exact ⟨h.1.say s (by omega), s_say_ok h.2 hP y2 y4⟩
theorem ho_l {D : Nat → Prop} {x r : Nat} (hE : w_fit d E) (ht : t < 3) (hP : s_POK P) (hY : s_YOK P Y) (hx : x < 12) : ∀ (n j : Nat) (C : w_R) (I : w_I), j + n = P 2 0 → HI P D C → COK C → MP P I → MY Y I → MD t P C I →
    (∀ I' C' y z, C' = ((List.range' j n).filter (fun m => P 5 m == x)).foldl (fun C m => (s_sm Y m).foldl (s_say P Y) C) C → MD t P C' I' → FrD t I I' → V mX8_hour E Ω 0 0 (SH u v) I' L 52 [(0, .ref (Ω.1 + 63)), (1, .int (nI t)), (2, .int (nI x)), (3, .int (nI r)), (4, .int (nI y)), (5, .int (nI z))] []) →
    V mX8_hour E Ω 0 0 (SH u v) I L 13 [(0, .ref (Ω.1 + 63)), (1, .int (nI t)), (2, .int (nI x)), (3, .int (nI r)), (4, .int (nI (C 6 0))), (5, .int (nI j))] [] := by
  have hm12 := hP.2.2.1
  intro n
  induction n with
  | zero =>
    intro j C I hj hH hC hMP hMY hM hk
    refine V_iload 13 5 dX8_hour_13 rfl ?_
    refine V_aload_n 15 0 dX8_hour_15 rfl ?_
    refine V_getR 16 flX8_7 dX8_hour_16 rfl ?_
    refine V_cst 19 1 dX8_hour_19 rfl ?_
    refine V_iald 20 dX8_hour_20 rfl (by omega) (by omega) ?_
    rw [hMP.2.1]
    refine V_cN_ge 21 52 dX8_hour_21 (by decide) (by omega) (by omega) (fun c => ?_) (fun c => ?_)
    · exact hk I C _ _ rfl hM FrD.rf
    · omega
  | succ n ih =>
    intro j C I hj hH hC hMP hMY hM hk
    obtain ⟨q1, q2, q3, q4⟩ := hP.2.2.2.1 j (by omega)
    obtain ⟨z1, z2, z3⟩ := hMP.2.2.2.2.1 j (by omega)
    refine V_iload 13 5 dX8_hour_13 rfl ?_
    refine V_aload_n 15 0 dX8_hour_15 rfl ?_
    refine V_getR 16 flX8_7 dX8_hour_16 rfl ?_
    refine V_cst 19 1 dX8_hour_19 rfl ?_
    refine V_iald 20 dX8_hour_20 rfl (by omega) (by omega) ?_
    rw [hMP.2.1]
    refine V_cN_ge 21 52 dX8_hour_21 (by decide) (by omega) (by omega) (fun c => ?_) (fun c => ?_)
    · omega
    refine V_aload_n 24 0 dX8_hour_24 rfl ?_
    refine V_getR 25 flX8_22 dX8_hour_25 rfl ?_
    refine V_iload 28 5 dX8_hour_28 rfl ?_
    refine V_iald 30 dX8_hour_30 rfl (by omega) (by omega) ?_
    refine V_iload_n 31 2 dX8_hour_31 rfl ?_
    rw [z3]
    refine V_cN_ne 32 46 dX8_hour_32 (by decide) (by omega) (by omega) (fun c1 => ?_) (fun c1 => ?_)
    · refine V_inc 46 5 _ [(0, _), (1, _), (2, _), (3, _), (4, _), (5, _)] dX8_hour_46 rfl rfl rfl (by decide) rfl ?_
      refine V_goto 49 13 dX8_hour_49 (by decide) ?_
      refine ih (j + 1) C I (by omega) hH hC hMP hMY hM (fun I' C' y z h1 h2 h3 => hk I' C' y z ?_ h2 h3)
      rw [h1, List.range'_succ, List.filter_cons, if_neg (by simpa using c1)]
    · refine V_aload_n 35 0 dX8_hour_35 rfl ?_
      refine V_iload_n 36 1 dX8_hour_36 rfl ?_
      refine V_iload 37 5 dX8_hour_37 rfl ?_
      refine V_iload 39 4 dX8_hour_39 rfl ?_
      refine V_vi 41 mvX8_272 dX8_hour_41 ⟨_, _, _, rfl, rfl, rfl⟩ (w_fit.mono (by omega) hE) (m_speak (d := d) (D := D) (C := C) ht hP hY (show j < P 2 0 by omega) hH hC hMP hMY hM) rfl (Nat.le_of_ble_eq_true rfl) ?_
      rintro _ _ I1 _ ⟨rfl, rfl, rfl, k1, k2⟩
      obtain ⟨e1, e2⟩ := says_keep (D := D) hP hY j hH hC
      refine V_istore 44 [(0, _), (1, _), (2, _), (3, _), (4, _), (5, _)] dX8_hour_44 (by decide) rfl ?_
      refine V_inc 46 5 _ [(0, _), (1, _), (2, _), (3, _), (4, _), (5, _)] dX8_hour_46 rfl rfl rfl (by decide) rfl ?_
      refine V_goto 49 13 dX8_hour_49 (by decide) ?_
      refine ih (j + 1) _ I1 (by omega) e1 e2 (k2.mp hMP) (k2.my hMY) k1 (fun I' C' y z h1 h2 h3 => hk I' C' y z ?_ h2 (k2.trans h3))
      rw [h1, List.range'_succ, List.filter_cons, if_pos (by simpa using c1), List.foldl_cons]
theorem hour_2 (C : w_R) (x : Nat) : s_hour P Y C x 2 0 = s_make P x C (P 6 0) 2 0 := by
  unfold s_hour
  refine foldl_ind (J := fun (D : w_R) => D 2 0 = s_make P x C (P 6 0) 2 0) _ _ (w_put_other _ (Or.inl (by decide))) (fun D m _ h => ?_)
  refine foldl_ind (J := fun (D : w_R) => D 2 0 = s_make P x C (P 6 0) 2 0) _ _ h (fun D s _ h => ?_)
  rw [s_say_at D s 2 0 (by decide) (by decide) (by decide) (by decide)]
  exact h
theorem m_hour {C : w_R} {I : w_I} {x dd : Nat} (ht : t < 3) (hP : s_POK P) (hY : s_YOK P Y) (hx : x < 12) (hH : HI P (mb P dd x) C) (hC : COK C) (hd : C 0 0 = dd) (hMP : MP P I) (hMY : MY Y I) (hM : MD t P C I) : FnI Ω (d + 2) mX8_hour [.ref (Ω.1 + 63), .int (nI t), .int (nI x)] (SH u v) I L (fun r S' I' L' => r = nI (s_hour P Y C x 2 0 - C 2 0) ∧ S' = SH u v ∧ L = L' ∧ MD t P (s_hour P Y C x) I' ∧ FrD t I I') := by
  refine FnR_of okX8_hour (Nat.le_of_ble_eq_true rfl) fun l z => ?_
  have hE : w_fit (d + 1) (w_Er l (d + 2) 0 0 Ω (w_pi (fun r S' I' L' => r = nI (s_hour P Y C x 2 0 - C 2 0) ∧ S' = SH u v ∧ L = L' ∧ MD t P (s_hour P Y C x) I' ∧ FrD t I I')) z) := w_fit_r
  show V _ _ _ _ _ _ _ _ 0 [(0, _), (1, _), (2, _)] []
  refine V_aload_n 0 0 dX8_hour_0 rfl ?_
  refine V_iload_n 1 1 dX8_hour_1 rfl ?_
  refine V_iload_n 2 2 dX8_hour_2 rfl ?_
  refine V_vi 3 mvX8_269 dX8_hour_3 ⟨_, _, _, rfl, rfl, rfl⟩ (w_fit.mono (by omega) hE) (m_make (d := d) ht hP hx hH hC hd hMP hM) rfl (Nat.le_of_ble_eq_true rfl) ?_
  rintro _ _ I1 _ ⟨rfl, rfl, rfl, k1, k2⟩
  obtain ⟨i1, i2, i3⟩ := hH.makes (x := x) hP hC hd (P 6 0) (Nat.le_refl _)
  have hC1 : COK (w_put (s_make P x C (P 6 0)) 6 0 0) := COK.put i2 6 0 0 (by omega) (by omega) (by omega) (by omega) (by omega) (by omega) (by omega)
  refine V_istore_n 6 [(0, _), (1, _), (2, _), (3, _)] dX8_hour_6 (by decide) rfl ?_
  refine V_cst 7 0 dX8_hour_7 rfl ?_
  refine V_istore 8 [(0, _), (1, _), (2, _), (3, _), (4, _)] dX8_hour_8 (by decide) rfl ?_
  refine V_cst 10 0 dX8_hour_10 rfl ?_
  refine V_istore 11 [(0, _), (1, _), (2, _), (3, _), (4, _), (5, _)] dX8_hour_11 (by decide) rfl ?_
  refine ho_l (d := d) (w_fit.mono (by omega) hE) ht hP hY hx (P 2 0) 0 (w_put (s_make P x C (P 6 0)) 6 0 0) I1 (by omega) (i1.spoke 0) hC1 (k2.mp hMP) (k2.my hMY) (k1.sp 0) (fun I' C' y z h1 h2 h3 => ?_)
  rw [← List.range_eq_range'] at h1
  have h1 : C' = s_hour P Y C x := h1
  subst h1
  refine V_iload_n 52 3 dX8_hour_52 rfl ?_
  exact V_iret 53 dX8_hour_53 rfl ⟨by rw [hour_2], rfl, rfl, h2, k2.trans h3⟩
/-! beginDay -/
theorem bd_l : ∀ (n j : Nat) (I : w_I), t < 3 → j + n = 12 →
    (∀ I', (∀ q, q < 12 → I' 85 (12 * t + q) = if j ≤ q then 0 else I 85 (12 * t + q)) → (∀ q, q < 12 → I' 86 q = if j ≤ q then 0 else I 86 q) → (∀ i, i ≠ 85 → i ≠ 86 → I' i = I i) → FrD t I I' → V mX8_beginDay E Ω 0 0 (SH u v) I' L 33 [(0, .ref (Ω.1 + 63)), (1, .int (nI t)), (2, .int (nI 12))] []) →
    V mX8_beginDay E Ω 0 0 (SH u v) I L 2 [(0, .ref (Ω.1 + 63)), (1, .int (nI t)), (2, .int (nI j))] [] := by
  intro n
  induction n with
  | zero =>
    intro j I ht hj hk
    have e : j = 12 := by omega
    subst e
    refine V_iload_n 2 2 dX8_beginDay_2 rfl ?_
    refine V_bip 3 12 dX8_beginDay_3 rfl ?_
    refine V_cN_ge 5 33 dX8_beginDay_5 (by decide) (by omega) (by omega) (fun c => ?_) (fun c => ?_)
    · exact hk I (fun q hq => by rw [if_neg (by omega)]) (fun q hq => by rw [if_neg (by omega)]) (fun _ _ _ => rfl) FrD.rf
    · omega
  | succ n ih =>
    intro j I ht hj hk
    refine V_iload_n 2 2 dX8_beginDay_2 rfl ?_
    refine V_bip 3 12 dX8_beginDay_3 rfl ?_
    refine V_cN_ge 5 33 dX8_beginDay_5 (by decide) (by omega) (by omega) (fun c => ?_) (fun c => ?_)
    · omega
    refine V_aload_n 8 0 dX8_beginDay_8 rfl ?_
    refine V_getR 9 flX8_77 dX8_beginDay_9 rfl ?_
    refine V_bip 12 12 dX8_beginDay_12 rfl ?_
    refine V_iload_n 14 1 dX8_beginDay_14 rfl ?_
    refine V_mul 15 dX8_beginDay_15 ?_
    refine V_iload_n 16 2 dX8_beginDay_16 rfl ?_
    refine V_add 17 dX8_beginDay_17 ?_
    refine V_cst 18 0 dX8_beginDay_18 rfl ?_
    refine V_iast 19 dX8_beginDay_19 rfl (by omega) (by omega) ?_
    refine V_aload_n 20 0 dX8_beginDay_20 rfl ?_
    refine V_getR 21 flX8_80 dX8_beginDay_21 rfl ?_
    refine V_iload_n 24 2 dX8_beginDay_24 rfl ?_
    refine V_cst 25 0 dX8_beginDay_25 rfl ?_
    refine V_zast 26 dX8_beginDay_26 rfl (by omega) (by omega) (by first | exact Or.inl rfl | exact Or.inr rfl | assumption) ?_
    refine V_inc 27 2 _ [(0, _), (1, _), (2, _)] dX8_beginDay_27 rfl rfl rfl (by decide) rfl ?_
    refine V_goto 30 2 dX8_beginDay_30 (by decide) ?_
    have hf : FrD t I (w_put (w_put I 85 (12 * t + j) 0) 86 j 0) := (FrD.rf.put (by decide) (by decide) (by omega) (by omega)).p89
    refine ih (j + 1) _ ht (by omega) (fun I' k1 k2 k3 k4 => hk I' (fun q hq => ?_) (fun q hq => ?_) (fun i a b => ?_) (hf.trans k4))
    · rw [k1 q hq, w_put_ne _ 85 (by decide), w_put_eq]
      by_cases e : q = j
      · subst e; rw [if_neg (by omega), if_pos ⟨rfl, rfl⟩, if_pos (Nat.le_refl _)]
      · rw [if_neg (show ¬ (85 = 85 ∧ 12 * t + q = 12 * t + j) by omega)]
        by_cases e2 : j ≤ q
        · rw [if_pos (by omega), if_pos e2]
        · rw [if_neg (by omega), if_neg e2]
    · rw [k2 q hq, w_put_eq, w_put_ne I 86 (by decide)]
      by_cases e : q = j
      · subst e; rw [if_neg (by omega), if_pos ⟨rfl, rfl⟩, if_pos (Nat.le_refl _)]
      · rw [if_neg (show ¬ (86 = 86 ∧ q = j) from fun h => e h.2)]
        by_cases e2 : j ≤ q
        · rw [if_pos (by omega), if_pos e2]
        · rw [if_neg (by omega), if_neg e2]
    · rw [k3 i a b, w_put_ne _ _ b, w_put_ne _ _ a]
theorem m_beginDay {C : w_R} {I : w_I} (ht : t < 3) (hP : s_POK P) (h5 : C 5 0 = 0) (h9 : ∀ p, C 9 p = 0) (hM : MC t P C I) : FnV Ω d mX8_beginDay [.ref (Ω.1 + 63), .int (nI t)] (SH u v) I L (fun S' I' L' => S' = SH u v ∧ L = L' ∧ MD t P C I' ∧ FrD t I I') := by
  have h12 := hP.2.2.2.2.1
  refine FnR_of okX8_beginDay (Nat.le_of_ble_eq_true rfl) fun l z => ?_
  show V _ _ _ _ _ _ _ _ 0 [(0, _), (1, _)] []
  refine V_cst 0 0 dX8_beginDay_0 rfl ?_
  refine V_istore_n 1 [(0, _), (1, _), (2, _)] dX8_beginDay_1 (by decide) rfl ?_
  refine bd_l 12 0 I ht (by omega) (fun I' k1 k2 k3 k4 => ?_)
  obtain ⟨m0, m1, m2⟩ := hM
  refine V_ret 33 dX8_beginDay_33 rfl ⟨rfl, rfl, ⟨?_, ?_, fun p hp => ?_⟩, k4⟩
  · rw [k3 80 (by decide) (by decide)]; exact m0
  · rw [k3 81 (by decide) (by decide)]; exact m1
  · obtain ⟨a1, a2, a3⟩ := m2 p hp
    rw [k3 82 (by decide) (by decide), k3 83 (by decide) (by decide), k3 84 (by decide) (by decide), k1 p (by omega), k2 p (by omega), if_pos (Nat.zero_le _), if_pos (Nat.zero_le _), h5, h9, Nat.zero_testBit]
    exact ⟨a1, a2, a3, rfl, rfl⟩
end
