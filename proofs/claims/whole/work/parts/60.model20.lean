section
variable {Ω : w_O} {d u v : Nat} {L : w_L} {E : w_E} {T : Nat → Nat} {n : Nat}
/-- reading has failed -/
def BD (q : Nat × Nat) (I : w_I) : Prop := I 63 25 = q.1 ∧ I 63 26 = q.2 ∧ 1 ≤ q.1 ∧ q.1 ≤ 5 ∧ I 63 21 < 5
def GD (T : Nat → Nat) (n e : Nat) (I : w_I) : Prop := I 63 25 = 0 ∧ MRT T n e I ∧ e ≤ n
theorem m_is0 {I : w_I} {q : Nat × Nat} {w : Nat} (hi : w < 7) (hB : BD q I) : FnI Ω d mX8_is [.ref (Ω.1 + 63), .ref (w_sa Ω w)] (SH u v) I L (fun r S' I' L' => r = nI 0 ∧ S' = SH u v ∧ I = I' ∧ L = L') := by
  obtain ⟨b1, b2, b3, b4⟩ := hB
  refine FnR_of okX8_is (Nat.le_of_ble_eq_true rfl) fun l z => ?_
  show V _ _ _ _ _ _ _ _ 0 [(0, _), (1, _)] []
  refine V_aload_n 0 0 dX8_is_0 rfl ?_
  refine V_getI 1 flX8_173 dX8_is_1 rfl ?_
  rw [b1]
  refine V_zN_ne 4 35 dX8_is_4 (by decide) (by omega) (fun c => ?_) (fun c => ?_)
  rotate_left
  · omega
  refine V_cst 35 0 dX8_is_35 rfl ?_
  refine V_istore_n 36 [(0, _), (1, _), (2, _)] dX8_is_36 (by decide) rfl ?_
  refine V_cst 37 0 dX8_is_37 rfl ?_
  refine V_istore_n 38 [(0, _), (1, _), (2, _), (3, _)] dX8_is_38 (by decide) rfl ?_
  refine V_iload_n 39 2 dX8_is_39 rfl ?_
  refine V_zN_eq 40 82 dX8_is_40 (by decide) (by omega) (fun c1 => ?_) (fun c1 => ?_)
  rotate_left
  · exact absurd rfl c1
  refine V_iload_n 82 2 dX8_is_82 rfl ?_
  exact V_zret 83 dX8_is_83 rfl rfl ⟨rfl, rfl, rfl, rfl⟩
theorem is_l {I : w_I} {e w : Nat} (hE : w_fit (d + 3) E) (hi : w < 7) (hR : MRT T n e I) (hT : MTX T n I) (hs : x_st T n e + x_wl w ≤ n) : ∀ (k j : Nat), j + k = x_wl w →
    (∀ x, V mX8_is E Ω 0 0 (SH u v) I L 82 [(0, .ref (Ω.1 + 63)), (1, .ref (w_sa Ω w)), (2, .int (nI (if (List.range' j k).all (fun j => T (x_st T n e + j) == x_wc w j) then 1 else 0))), (3, .int (nI x))] []) →
    V mX8_is E Ω 0 0 (SH u v) I L 39 [(0, .ref (Ω.1 + 63)), (1, .ref (w_sa Ω w)), (2, .int (nI 1)), (3, .int (nI j))] [] := by
  obtain ⟨-, a2, a3⟩ := x_w_all w hi
  have hn := hT.1
  intro k
  induction k with
  | zero =>
    intro j hj k1
    refine V_iload_n 39 2 dX8_is_39 rfl ?_
    refine V_zN_eq 40 82 dX8_is_40 (by decide) (by omega) (fun c => ?_) (fun c => ?_)
    · exact absurd c (by decide)
    refine V_iload_n 43 3 dX8_is_43 rfl ?_
    refine V_aload_n 44 1 dX8_is_44 rfl ?_
    refine V_wi 45 hi mvX8_179 rfl dX8_is_45 (w_fit.mono (by omega) hE) (c_length (d := d) hi) rfl (Nat.le_of_ble_eq_true rfl) ?_
    rintro _ _ _ _ ⟨rfl, rfl, rfl, rfl⟩
    refine V_cN_ge 48 82 dX8_is_48 (by decide) (by omega) (by omega) (fun c1 => ?_) (fun c1 => ?_)
    · exact k1 j
    · omega
  | succ k ih =>
    intro j hj k1
    have hc := (a3 j (by omega)).2
    obtain ⟨t1, t2⟩ := hT.2.2 (x_st T n e + j) (by omega)
    rw [List.range'_succ, List.all_cons] at k1
    refine V_iload_n 39 2 dX8_is_39 rfl ?_
    refine V_zN_eq 40 82 dX8_is_40 (by decide) (by omega) (fun c => ?_) (fun c => ?_)
    · exact absurd c (by decide)
    refine V_iload_n 43 3 dX8_is_43 rfl ?_
    refine V_aload_n 44 1 dX8_is_44 rfl ?_
    refine V_wi 45 hi mvX8_179 rfl dX8_is_45 (w_fit.mono (by omega) hE) (c_length (d := d) hi) rfl (Nat.le_of_ble_eq_true rfl) ?_
    rintro _ _ _ _ ⟨rfl, rfl, rfl, rfl⟩
    refine V_cN_ge 48 82 dX8_is_48 (by decide) (by omega) (by omega) (fun c1 => ?_) (fun c1 => ?_)
    · omega
    refine V_aload_n 51 1 dX8_is_51 rfl ?_
    refine V_iload_n 52 3 dX8_is_52 rfl ?_
    refine V_wi 53 hi mvX8_185 rfl dX8_is_53 (w_fit.mono (by omega) hE) (c_charAt (d := d) hi (by omega)) rfl (Nat.le_of_ble_eq_true rfl) ?_
    rintro _ _ _ _ ⟨rfl, rfl, rfl, rfl⟩
    refine V_aload_n 56 0 dX8_is_56 rfl ?_
    refine V_getR 57 flX8_55 dX8_is_57 rfl ?_
    refine V_aload_n 60 0 dX8_is_60 rfl ?_
    refine V_getI 61 flX8_148 dX8_is_61 rfl ?_
    rw [hR.2.1]
    refine V_iload_n 64 3 dX8_is_64 rfl ?_
    refine V_add 65 dX8_is_65 ?_
    refine V_iald 66 dX8_is_66 rfl (by omega) (by omega) ?_
    rw [t2]
    refine V_cN_ne 67 74 dX8_is_67 (by decide) (by omega) (by omega) (fun c2 => ?_) (fun c2 => ?_)
    · have e1 : (T (x_st T n e + j) == x_wc w j) = false := beq_eq_false_iff_ne.mpr (fun h => c2 h.symm)
      rw [e1, Bool.false_and, if_neg (by decide)] at k1
      refine V_cst 74 0 dX8_is_74 rfl ?_
      refine V_istore_n 75 [(0, _), (1, _), (2, _), (3, _)] dX8_is_75 (by decide) rfl ?_
      refine V_inc 76 3 _ [(0, _), (1, _), (2, _), (3, _)] dX8_is_76 rfl rfl rfl (by decide) rfl ?_
      refine V_goto 79 39 dX8_is_79 (by decide) ?_
      refine V_iload_n 39 2 dX8_is_39 rfl ?_
      refine V_zN_eq 40 82 dX8_is_40 (by decide) (by omega) (fun c3 => ?_) (fun c3 => ?_)
      · exact k1 _
      · exact absurd rfl c3
    · have e1 : (T (x_st T n e + j) == x_wc w j) = true := beq_iff_eq.mpr c2.symm
      rw [e1, Bool.true_and] at k1
      refine V_cst 70 1 dX8_is_70 rfl ?_
      refine V_goto 71 75 dX8_is_71 (by decide) ?_
      refine V_istore_n 75 [(0, _), (1, _), (2, _), (3, _)] dX8_is_75 (by decide) rfl ?_
      refine V_inc 76 3 _ [(0, _), (1, _), (2, _), (3, _)] dX8_is_76 rfl rfl rfl (by decide) rfl ?_
      refine V_goto 79 39 dX8_is_79 (by decide) ?_
      exact ih (j + 1) (by omega) k1
theorem m_is1 {I : w_I} {e w : Nat} (hi : w < 7) (hG : GD T n e I) (hT : MTX T n I) : FnI Ω (d + 4) mX8_is [.ref (Ω.1 + 63), .ref (w_sa Ω w)] (SH u v) I L (fun r S' I' L' => r = nI (if x_is T n e w then 1 else 0) ∧ S' = SH u v ∧ I = I' ∧ L = L') := by
  obtain ⟨g1, hR, he⟩ := hG
  obtain ⟨-, a2, a3⟩ := x_w_all w hi
  have hn := hT.1
  have hkd := x_kd_lt (T := T) (n := n) e
  obtain ⟨l1, l2, l3⟩ := x_en_le (T := T) he
  refine FnR_of1 okX8_is (Nat.le_of_ble_eq_true rfl) fun l z hE => ?_
  show V _ _ _ _ _ _ _ _ 0 [(0, _), (1, _)] []
  have no : x_is T n e w = false → V mX8_is (w_Er l (d + 4) 0 0 Ω (w_pi (fun r S' I' L' => r = nI (if x_is T n e w then 1 else 0) ∧ S' = SH u v ∧ I = I' ∧ L = L')) z) Ω 0 0 (SH u v) I L 35 [(0, .ref (Ω.1 + 63)), (1, .ref (w_sa Ω w))] [] := by
    intro h
    rw [h]
    refine V_cst 35 0 dX8_is_35 rfl ?_
    refine V_istore_n 36 [(0, _), (1, _), (2, _)] dX8_is_36 (by decide) rfl ?_
    refine V_cst 37 0 dX8_is_37 rfl ?_
    refine V_istore_n 38 [(0, _), (1, _), (2, _), (3, _)] dX8_is_38 (by decide) rfl ?_
    refine V_iload_n 39 2 dX8_is_39 rfl ?_
    refine V_zN_eq 40 82 dX8_is_40 (by decide) (by omega) (fun c1 => ?_) (fun c1 => ?_)
    rotate_left
    · exact absurd rfl c1
    refine V_iload_n 82 2 dX8_is_82 rfl ?_
    exact V_zret 83 dX8_is_83 rfl rfl ⟨rfl, rfl, rfl, rfl⟩
  refine V_aload_n 0 0 dX8_is_0 rfl ?_
  refine V_getI 1 flX8_173 dX8_is_1 rfl ?_
  rw [g1]
  refine V_zN_ne 4 35 dX8_is_4 (by decide) (by omega) (fun c => ?_) (fun c => ?_)
  · exact absurd rfl c
  refine V_aload_n 7 0 dX8_is_7 rfl ?_
  refine V_getI 8 flX8_151 dX8_is_8 rfl ?_
  refine V_cst 11 1 dX8_is_11 rfl ?_
  rw [hR.1]
  refine V_cN_ne 12 35 dX8_is_12 (by decide) (by omega) (by omega) (fun c1 => ?_) (fun c1 => ?_)
  · refine no ?_
    unfold x_is
    rw [beq_eq_false_iff_ne.mpr c1, Bool.false_and]
  refine V_aload_n 15 1 dX8_is_15 rfl ?_
  refine V_wi 16 hi mvX8_179 rfl dX8_is_16 (w_fit.mono (by omega) hE) (c_length (d := d) hi) rfl (Nat.le_of_ble_eq_true rfl) ?_
  rintro _ _ _ _ ⟨rfl, rfl, rfl, rfl⟩
  refine V_aload_n 19 0 dX8_is_19 rfl ?_
  refine V_getI 20 flX8_170 dX8_is_20 rfl ?_
  refine V_aload_n 23 0 dX8_is_23 rfl ?_
  refine V_getI 24 flX8_148 dX8_is_24 rfl ?_
  rw [hR.2.1, hR.2.2.1]
  refine V_sub1 27 dX8_is_27 (by omega) ?_
  refine V_cN_ne 28 35 dX8_is_28 (by decide) (by omega) (by omega) (fun c2 => ?_) (fun c2 => ?_)
  · refine no ?_
    unfold x_is
    rw [beq_eq_false_iff_ne.mpr (fun h => c2 h.symm), Bool.false_and, Bool.and_false]
  refine V_cst 31 1 dX8_is_31 rfl ?_
  refine V_goto 32 36 dX8_is_32 (by decide) ?_
  refine V_istore_n 36 [(0, _), (1, _), (2, _)] dX8_is_36 (by decide) rfl ?_
  refine V_cst 37 0 dX8_is_37 rfl ?_
  refine V_istore_n 38 [(0, _), (1, _), (2, _), (3, _)] dX8_is_38 (by decide) rfl ?_
  refine is_l hE hi hR hT (by omega) (x_wl w) 0 (by omega) (fun x => ?_)
  refine V_iload_n 82 2 dX8_is_82 rfl ?_
  have e0 : x_is T n e w = (List.range' 0 (x_wl w)).all (fun j => T (x_st T n e + j) == x_wc w j) := by
    unfold x_is
    rw [beq_iff_eq.mpr c1, beq_iff_eq.mpr c2.symm, Bool.true_and, Bool.true_and]
  exact V_zret 83 dX8_is_83 rfl (by split <;> rfl) ⟨by rw [e0], rfl, rfl, rfl⟩
theorem m_passes0 {I : w_I} {q : Nat × Nat} {w : Nat} (hi : w < 7) (hB : BD q I) : FnI Ω (d + 1) mX8_passes [.ref (Ω.1 + 63), .ref (w_sa Ω w)] (SH u v) I L (fun r S' I' L' => r = nI 0 ∧ S' = SH u v ∧ I = I' ∧ L = L') := by
  refine FnR_of1 okX8_passes (Nat.le_of_ble_eq_true rfl) fun l z hE => ?_
  show V _ _ _ _ _ _ _ _ 0 [(0, _), (1, _)] []
  refine V_aload_n 0 0 dX8_passes_0 rfl ?_
  refine V_aload_n 1 1 dX8_passes_1 rfl ?_
  refine V_vi 2 mvX8_189 dX8_passes_2 ⟨_, _, _, rfl, rfl, rfl⟩ (w_fit.mono (by omega) hE) (m_is0 (d := d) hi hB) rfl (Nat.le_of_ble_eq_true rfl) ?_
  rintro _ _ _ _ ⟨rfl, rfl, rfl, rfl⟩
  refine V_istore_n 5 [(0, _), (1, _), (2, _)] dX8_passes_5 (by decide) rfl ?_
  refine V_iload_n 6 2 dX8_passes_6 rfl ?_
  refine V_zN_eq 7 14 dX8_passes_7 (by decide) (by omega) (fun c => ?_) (fun c => ?_)
  · refine V_iload_n 14 2 dX8_passes_14 rfl ?_
    exact V_zret 15 dX8_passes_15 rfl rfl ⟨rfl, rfl, rfl, rfl⟩
  · exact absurd rfl c
theorem GD.step {I I' : w_I} {e : Nat} (h : GD T n e I) (hR : MRT T n (x_en T n e) I') (hf : FrS I I') : GD T n (x_en T n e) I' := ⟨by rw [hf.2 25 (by decide) (by decide)]; exact h.1, hR, (x_en_le h.2.2).2.2⟩
theorem m_passes1 {I : w_I} {e w : Nat} (hi : w < 7) (hG : GD T n e I) (hT : MTX T n I) : FnI Ω (d + 5) mX8_passes [.ref (Ω.1 + 63), .ref (w_sa Ω w)] (SH u v) I L (fun r S' I' L' => r = nI (if x_is T n e w then 1 else 0) ∧ S' = SH u v ∧ L = L' ∧ GD T n (if x_is T n e w then x_en T n e else e) I' ∧ FrX I I') := by
  refine FnR_of1 okX8_passes (Nat.le_of_ble_eq_true rfl) fun l z hE => ?_
  show V _ _ _ _ _ _ _ _ 0 [(0, _), (1, _)] []
  refine V_aload_n 0 0 dX8_passes_0 rfl ?_
  refine V_aload_n 1 1 dX8_passes_1 rfl ?_
  refine V_vi 2 mvX8_189 dX8_passes_2 ⟨_, _, _, rfl, rfl, rfl⟩ (w_fit.mono (by omega) hE) (m_is1 (d := d) hi hG hT) rfl (Nat.le_of_ble_eq_true rfl) ?_
  rintro _ _ _ _ ⟨rfl, rfl, rfl, rfl⟩
  cases h : x_is T n e w
  · rw [if_neg (by decide), if_neg (by decide)]
    refine V_istore_n 5 [(0, _), (1, _), (2, _)] dX8_passes_5 (by decide) rfl ?_
    refine V_iload_n 6 2 dX8_passes_6 rfl ?_
    refine V_zN_eq 7 14 dX8_passes_7 (by decide) (by omega) (fun c => ?_) (fun c => ?_)
    · refine V_iload_n 14 2 dX8_passes_14 rfl ?_
      exact V_zret 15 dX8_passes_15 rfl rfl ⟨rfl, rfl, rfl, hG, FrX.rf⟩
    · exact absurd rfl c
  · rw [if_pos rfl, if_pos rfl]
    refine V_istore_n 5 [(0, _), (1, _), (2, _)] dX8_passes_5 (by decide) rfl ?_
    refine V_iload_n 6 2 dX8_passes_6 rfl ?_
    refine V_zN_eq 7 14 dX8_passes_7 (by decide) (by omega) (fun c => ?_) (fun c => ?_)
    · exact absurd c (by decide)
    refine V_aload_n 10 0 dX8_passes_10 rfl ?_
    refine V_vv 11 mvX8_193 dX8_passes_11 ⟨_, _, _, rfl, rfl, rfl⟩ (w_fit.mono (by omega) hE) (m_stepOn (d := d + 3) hG.2.1.2.2.2.1 (x_en_le hG.2.2).2.2 hT) rfl (Nat.le_of_ble_eq_true rfl) ?_
    rintro _ I1 _ ⟨rfl, rfl, k1, k2⟩
    refine V_iload_n 14 2 dX8_passes_14 rfl ?_
    exact V_zret 15 dX8_passes_15 rfl rfl ⟨rfl, rfl, rfl, hG.step k1 k2, k2.x⟩
theorem m_word0 {I : w_I} {q : Nat × Nat} {w : Nat} (hB : BD q I) : FnV Ω d mX8_word [.ref (Ω.1 + 63), .ref (w_sa Ω w)] (SH u v) I L (fun S' I' L' => S' = SH u v ∧ I = I' ∧ L = L') := by
  obtain ⟨b1, b2, b3, b4⟩ := hB
  refine FnR_of okX8_word (Nat.le_of_ble_eq_true rfl) fun l z => ?_
  show V _ _ _ _ _ _ _ _ 0 [(0, _), (1, _)] []
  refine V_aload_n 0 0 dX8_word_0 rfl ?_
  refine V_getI 1 flX8_173 dX8_word_1 rfl ?_
  rw [b1]
  refine V_zN_ne 4 20 dX8_word_4 (by decide) (by omega) (fun c => ?_) (fun c => ?_)
  rotate_left
  · omega
  refine V_aload_n 20 0 dX8_word_20 rfl ?_
  refine V_getI 21 flX8_173 dX8_word_21 rfl ?_
  rw [b1]
  refine V_zN_ne 24 31 dX8_word_24 (by decide) (by omega) (fun c1 => ?_) (fun c1 => ?_)
  rotate_left
  · omega
  exact V_ret 31 dX8_word_31 rfl ⟨rfl, rfl, rfl⟩
/-- a fault is set down -/
theorem BD.wrong {I : w_I} {e f : Nat} (hG : GD T n e I) (h1 : 1 ≤ f) (h5 : f ≤ 5) : BD (f, x_st T n e) (w_put (w_put I 63 25 f) 63 26 (I 63 23)) ∧ FrX I (w_put (w_put I 63 25 f) 63 26 (I 63 23)) := by
  refine ⟨⟨?_, ?_, h1, h5, ?_⟩, fun i hi => ?_, fun j hj => ?_⟩
  · rw [w_put_other _ (Or.inr (by decide)), w_put_same]
  · rw [w_put_same]; exact hG.2.1.2.1
  · rw [w_put_other _ (Or.inr (by decide)), w_put_other _ (Or.inr (by decide)), hG.2.1.1]; exact x_kd_lt e
  · rw [w_put_ne _ _ hi, w_put_ne _ _ hi]
  · rw [w_put_other _ (Or.inr (by omega)), w_put_other _ (Or.inr (by omega))]
theorem m_word1 {I : w_I} {e w : Nat} (hi : w < 7) (hG : GD T n e I) (hT : MTX T n I) : FnV Ω (d + 5) mX8_word [.ref (Ω.1 + 63), .ref (w_sa Ω w)] (SH u v) I L (fun S' I' L' => S' = SH u v ∧ L = L' ∧ FrX I I' ∧ ((x_is T n e w = true ∧ GD T n (x_en T n e) I') ∨ (x_is T n e w = false ∧ BD (1, x_st T n e) I'))) := by
  refine FnR_of1 okX8_word (Nat.le_of_ble_eq_true rfl) fun l z hE => ?_
  show V _ _ _ _ _ _ _ _ 0 [(0, _), (1, _)] []
  refine V_aload_n 0 0 dX8_word_0 rfl ?_
  refine V_getI 1 flX8_173 dX8_word_1 rfl ?_
  rw [hG.1]
  refine V_zN_ne 4 20 dX8_word_4 (by decide) (by omega) (fun c => ?_) (fun c => ?_)
  · exact absurd rfl c
  refine V_aload_n 7 0 dX8_word_7 rfl ?_
  refine V_aload_n 8 1 dX8_word_8 rfl ?_
  refine V_vi 9 mvX8_189 dX8_word_9 ⟨_, _, _, rfl, rfl, rfl⟩ (w_fit.mono (by omega) hE) (m_is1 (d := d) hi hG hT) rfl (Nat.le_of_ble_eq_true rfl) ?_
  rintro _ _ _ _ ⟨rfl, rfl, rfl, rfl⟩
  cases h : x_is T n e w
  · rw [if_neg (by decide)]
    refine V_zN_ne 12 20 dX8_word_12 (by decide) (by omega) (fun c1 => ?_) (fun c1 => ?_)
    · exact absurd rfl c1
    refine V_aload_n 15 0 dX8_word_15 rfl ?_
    refine V_cst 16 1 dX8_word_16 rfl ?_
    refine V_vv 17 mvX8_196 dX8_word_17 ⟨_, _, _, rfl, rfl, rfl⟩ (w_fit.mono (by omega) hE) (m_wrong (d := d) (f := 1) hG.1) rfl (Nat.le_of_ble_eq_true rfl) ?_
    rintro _ I1 _ ⟨rfl, rfl, k1⟩
    obtain ⟨b1, b2⟩ := BD.wrong hG (f := 1) (by decide) (by decide)
    rw [← k1] at b1 b2
    refine V_aload_n 20 0 dX8_word_20 rfl ?_
    refine V_getI 21 flX8_173 dX8_word_21 rfl ?_
    rw [b1.1]
    refine V_zN_ne 24 31 dX8_word_24 (by decide) (by omega) (fun c2 => ?_) (fun c2 => ?_)
    rotate_left
    · exact absurd c2 Nat.one_ne_zero
    exact V_ret 31 dX8_word_31 rfl ⟨rfl, rfl, b2, Or.inr ⟨rfl, b1⟩⟩
  · rw [if_pos rfl]
    refine V_zN_ne 12 20 dX8_word_12 (by decide) (by omega) (fun c1 => ?_) (fun c1 => ?_)
    rotate_left
    · exact absurd c1 (by decide)
    refine V_aload_n 20 0 dX8_word_20 rfl ?_
    refine V_getI 21 flX8_173 dX8_word_21 rfl ?_
    rw [hG.1]
    refine V_zN_ne 24 31 dX8_word_24 (by decide) (by omega) (fun c2 => ?_) (fun c2 => ?_)
    · exact absurd rfl c2
    refine V_aload_n 27 0 dX8_word_27 rfl ?_
    refine V_vv 28 mvX8_193 dX8_word_28 ⟨_, _, _, rfl, rfl, rfl⟩ (w_fit.mono (by omega) hE) (m_stepOn (d := d + 3) hG.2.1.2.2.2.1 (x_en_le hG.2.2).2.2 hT) rfl (Nat.le_of_ble_eq_true rfl) ?_
    rintro _ I1 _ ⟨rfl, rfl, k1, k2⟩
    exact V_ret 31 dX8_word_31 rfl ⟨rfl, rfl, k2.x, Or.inl ⟨rfl, hG.step k1 k2⟩⟩
theorem m_semi0 {I : w_I} {q : Nat × Nat} (hB : BD q I) : FnV Ω d mX8_semi [.ref (Ω.1 + 63)] (SH u v) I L (fun S' I' L' => S' = SH u v ∧ I = I' ∧ L = L') := by
  obtain ⟨b1, b2, b3, b4⟩ := hB
  refine FnR_of okX8_semi (Nat.le_of_ble_eq_true rfl) fun l z => ?_
  show V _ _ _ _ _ _ _ _ 0 [(0, _)] []
  refine V_aload_n 0 0 dX8_semi_0 rfl ?_
  refine V_getI 1 flX8_173 dX8_semi_1 rfl ?_
  rw [b1]
  refine V_zN_ne 4 20 dX8_semi_4 (by decide) (by omega) (fun c => ?_) (fun c => ?_)
  rotate_left
  · omega
  refine V_aload_n 20 0 dX8_semi_20 rfl ?_
  refine V_getI 21 flX8_173 dX8_semi_21 rfl ?_
  rw [b1]
  refine V_zN_ne 24 31 dX8_semi_24 (by decide) (by omega) (fun c1 => ?_) (fun c1 => ?_)
  rotate_left
  · omega
  exact V_ret 31 dX8_semi_31 rfl ⟨rfl, rfl, rfl⟩
theorem m_semi1 {I : w_I} {e : Nat} (hG : GD T n e I) (hT : MTX T n I) : FnV Ω (d + 2) mX8_semi [.ref (Ω.1 + 63)] (SH u v) I L (fun S' I' L' => S' = SH u v ∧ L = L' ∧ FrX I I' ∧ ((∃ e', x_semi T n e = .ok e' ∧ GD T n e' I') ∨ (∃ q, x_semi T n e = .error q ∧ BD q I'))) := by
  have hkd := x_kd_lt (T := T) (n := n) e
  refine FnR_of1 okX8_semi (Nat.le_of_ble_eq_true rfl) fun l z hE => ?_
  show V _ _ _ _ _ _ _ _ 0 [(0, _)] []
  refine V_aload_n 0 0 dX8_semi_0 rfl ?_
  refine V_getI 1 flX8_173 dX8_semi_1 rfl ?_
  rw [hG.1]
  refine V_zN_ne 4 20 dX8_semi_4 (by decide) (by omega) (fun c => ?_) (fun c => ?_)
  · exact absurd rfl c
  refine V_aload_n 7 0 dX8_semi_7 rfl ?_
  refine V_getI 8 flX8_151 dX8_semi_8 rfl ?_
  refine V_cst 11 3 dX8_semi_11 rfl ?_
  rw [hG.2.1.1]
  refine V_cN_eq 12 20 dX8_semi_12 (by decide) (by omega) (by omega) (fun c1 => ?_) (fun c1 => ?_)
  · refine V_aload_n 20 0 dX8_semi_20 rfl ?_
    refine V_getI 21 flX8_173 dX8_semi_21 rfl ?_
    rw [hG.1]
    refine V_zN_ne 24 31 dX8_semi_24 (by decide) (by omega) (fun c2 => ?_) (fun c2 => ?_)
    · exact absurd rfl c2
    refine V_aload_n 27 0 dX8_semi_27 rfl ?_
    refine V_vv 28 mvX8_193 dX8_semi_28 ⟨_, _, _, rfl, rfl, rfl⟩ (w_fit.mono (by omega) hE) (m_stepOn (d := d) hG.2.1.2.2.2.1 (x_en_le hG.2.2).2.2 hT) rfl (Nat.le_of_ble_eq_true rfl) ?_
    rintro _ I1 _ ⟨rfl, rfl, k1, k2⟩
    exact V_ret 31 dX8_semi_31 rfl ⟨rfl, rfl, k2.x, Or.inl ⟨_, by unfold x_semi; rw [if_pos c1], hG.step k1 k2⟩⟩
  · refine V_aload_n 15 0 dX8_semi_15 rfl ?_
    refine V_cst 16 1 dX8_semi_16 rfl ?_
    refine V_vv 17 mvX8_196 dX8_semi_17 ⟨_, _, _, rfl, rfl, rfl⟩ (w_fit.mono (by omega) hE) (m_wrong (d := d) (f := 1) hG.1) rfl (Nat.le_of_ble_eq_true rfl) ?_
    rintro _ I1 _ ⟨rfl, rfl, k1⟩
    obtain ⟨b1, b2⟩ := BD.wrong hG (f := 1) (by decide) (by decide)
    rw [← k1] at b1 b2
    refine V_aload_n 20 0 dX8_semi_20 rfl ?_
    refine V_getI 21 flX8_173 dX8_semi_21 rfl ?_
    rw [b1.1]
    refine V_zN_ne 24 31 dX8_semi_24 (by decide) (by omega) (fun c2 => ?_) (fun c2 => ?_)
    rotate_left
    · exact absurd c2 Nat.one_ne_zero
    exact V_ret 31 dX8_semi_31 rfl ⟨rfl, rfl, b2, Or.inr ⟨_, by unfold x_semi; rw [if_neg c1], b1⟩⟩
end
