section
variable {P Y C R : w_R} {I I' : w_I} {σ : w_Z} {t : Nat}
theorem MP.of (h : MP P I) (hf : ∀ i, 64 ≤ i → i ≤ 73 → I' i = I i) : MP P I' := by
  unfold MP at h ⊢
  rw [hf 64 (by decide) (by decide), hf 65 (by decide) (by decide), hf 66 (by decide) (by decide), hf 67 (by decide) (by decide), hf 68 (by decide) (by decide), hf 69 (by decide) (by decide), hf 70 (by decide) (by decide), hf 71 (by decide) (by decide), hf 72 (by decide) (by decide), hf 73 (by decide) (by decide)]
  exact h
theorem MY.of (h : MY Y I) (h0 : I' 63 11 = I 63 11) (hf : ∀ i, 74 ≤ i → i ≤ 77 → I' i = I i) : MY Y I' := by
  unfold MY at h ⊢
  rw [h0, hf 74 (by decide) (by decide), hf 75 (by decide) (by decide), hf 76 (by decide) (by decide), hf 77 (by decide) (by decide)]
  exact h
theorem MC.of (h : MC t P C I) (hf : ∀ i, 80 ≤ i → i ≤ 84 → I' i = I i) : MC t P C I' := by
  unfold MC at h ⊢
  rw [hf 80 (by decide) (by decide), hf 81 (by decide) (by decide), hf 82 (by decide) (by decide), hf 83 (by decide) (by decide), hf 84 (by decide) (by decide)]
  exact h
theorem MT.of (h : MT R I) (h0 : I' 63 18 = I 63 18) (hf : I' 79 = I 79) : MT R I' := by
  unfold MT at h ⊢; rw [h0, hf]; exact h
theorem MM.of (h : MM R I) (h0 : I' 63 27 = I 63 27) (hf : I' 78 = I 78) : MM R I' := by
  unfold MM at h ⊢; rw [h0, hf]; exact h
theorem MR.of (h : MR σ I) (h0 : I' 63 41 = I 63 41) (hf : I' 91 = I 91) : MR σ I' := by
  unfold MR at h ⊢; rw [h0, hf]; exact h
theorem MA.of (h : MA σ I) (h0 : I' 63 53 = I 63 53) (h1 : I' 63 54 = I 63 54) (hf : ∀ i, (80 ≤ i ∧ i ≤ 84) ∨ i = 98 ∨ i = 99 → I' i = I i) : MA σ I' := by
  obtain ⟨a, b⟩ := h
  unfold MA
  rw [h0, h1, hf 98 (by decide), hf 99 (by decide)]
  refine ⟨a, ?_⟩
  rcases b with e | ⟨b1, b2, b3, b4, b5⟩
  · exact Or.inl e
  · exact Or.inr ⟨b1, b2, b3, b4.of (fun i q1 q2 => hf i (Or.inl ⟨q1, q2⟩)), b5⟩
theorem MS.of (h : MS I) (h0 : I' 63 52 = I 63 52) (hf : I' 97 = I 97) : MS I' := by
  unfold MS at h ⊢; rw [h0, hf]; exact h
end
section
variable {Ω : w_O} {d u v : Nat} {L : w_L} {E : w_E} {P Y : w_R} {I : w_I} {σ : w_Z}
/-- a change in the sayings -/
theorem MInv.y {Y' : w_R} {I' : w_I} (h : MInv σ I) (hY : MY Y' I') (hf : ∀ i, i ≠ 63 → i < 74 ∨ 77 < i → I' i = I i) (h66 : ∀ j, j ≠ 0 → j ≠ 11 → I' 63 j = I 63 j) : MInv (z_put σ 1 Y') I' := by
  obtain ⟨h1, h2, h3, h4, h5, h6, h7, h8⟩ := h
  exact ⟨h1.of (fun i a b => hf i (by omega) (by omega)), hY, h3.of (fun i a b => hf i (by omega) (by omega)), h4.of (h66 18 (by decide) (by decide)) (hf 79 (by decide) (by decide)), h5.of (h66 27 (by decide) (by decide)) (hf 78 (by decide) (by decide)), h6.of (h66 41 (by decide) (by decide)) (hf 91 (by decide) (by decide)), h7.of (h66 53 (by decide) (by decide)) (h66 54 (by decide) (by decide)) (fun i hi => hf i (by omega) (by omega)), h8.of (h66 52 (by decide) (by decide)) (hf 97 (by decide) (by decide))⟩
theorem m_unsay0 (hO : SOK σ) (hM : MInv σ I) (h : σ 1 0 0 = 0) : FnI Ω d mX8_unsay [.ref (Ω.1 + 63)] (SH u v) I L (MO u v L I σ 0 mI) := by
  have hM1 : MInv σ (w_put I 63 0 0) := hM.code
  refine FnR_of okX8_unsay (Nat.le_of_ble_eq_true rfl) fun l z => ?_
  show V _ _ _ _ _ _ _ _ 0 [(0, _)] []
  refine V_aload_n 0 0 dX8_unsay_0 rfl ?_
  refine V_cst 1 0 dX8_unsay_1 rfl ?_
  refine V_putI 2 flX8_128 ft_8_0 dX8_unsay_2 rfl ?_
  refine V_aload_n 5 0 dX8_unsay_5 rfl ?_
  refine V_getI 6 flX8_242 dX8_unsay_6 rfl ?_
  rw [hM1.2.1.1, h]
  refine V_zN_ne 9 14 dX8_unsay_9 (by decide) (by omega) (fun c => ?_) (fun c => ?_)
  · exact absurd rfl c
  refine V_cst 12 4294967295 dX8_unsay_12 rfl ?_
  exact V_iret 13 dX8_unsay_13 rfl ⟨rfl, rfl, w_put_same _ _ _ _, fun _ => rfl, hM1, FrM.rf.put (by decide) (by decide)⟩
theorem m_unsay1 (hO : SOK σ) (hM : MInv σ I) (h : σ 1 0 0 ≠ 0) : FnI Ω d mX8_unsay [.ref (Ω.1 + 63)] (SH u v) I L (MO u v L I (z_put σ 1 (w_put (σ 1) 0 0 (σ 1 0 0 - 1))) 0 (σ 1 0 0 - 1)) := by
  have hM1 : MInv σ (w_put I 63 0 0) := hM.code
  have h60 := hO.2.1.1
  obtain ⟨-, ⟨y0, y1⟩, -⟩ := hM1
  have hM1 : MInv σ (w_put I 63 0 0) := hM.code
  refine FnR_of okX8_unsay (Nat.le_of_ble_eq_true rfl) fun l z => ?_
  show V _ _ _ _ _ _ _ _ 0 [(0, _)] []
  refine V_aload_n 0 0 dX8_unsay_0 rfl ?_
  refine V_cst 1 0 dX8_unsay_1 rfl ?_
  refine V_putI 2 flX8_128 ft_8_0 dX8_unsay_2 rfl ?_
  refine V_aload_n 5 0 dX8_unsay_5 rfl ?_
  refine V_getI 6 flX8_242 dX8_unsay_6 rfl ?_
  rw [y0]
  refine V_zN_ne 9 14 dX8_unsay_9 (by decide) (by omega) (fun c => ?_) (fun c => ?_)
  rotate_left
  · exact absurd c h
  refine V_aload_n 14 0 dX8_unsay_14 rfl ?_
  refine V_dup 15 dX8_unsay_15 rfl ?_
  refine V_getI 16 flX8_242 dX8_unsay_16 rfl ?_
  rw [y0]
  refine V_cst 19 1 dX8_unsay_19 rfl ?_
  refine V_sub1 20 dX8_unsay_20 (by omega) ?_
  refine V_putI 21 flX8_242 ft_8_11 dX8_unsay_21 rfl ?_
  refine V_aload_n 24 0 dX8_unsay_24 rfl ?_
  refine V_getI 25 flX8_242 dX8_unsay_25 rfl ?_
  refine V_iret 28 dX8_unsay_28 rfl ⟨rfl, rfl, ?_, fun _ => by rw [w_put_same], hM1.y ⟨?_, fun s hs => ?_⟩ (fun i a b => w_put_ne _ _ a) (fun j a b => w_put_other _ (Or.inr b)), (FrM.rf.put (by decide) (by decide)).put (by decide) (by decide)⟩
  · rw [w_put_other _ (Or.inr (by decide)), w_put_same]
  · rw [w_put_same, w_put_same]
  · rw [w_put_same] at hs
    simpa [w_put_eq] using y1 s (by omega)
theorem sgn_in {a : Nat} (ha : a < 4294967296) : (sgn mI ≤ sgn a ∧ sgn a ≤ sgn 99) ↔ (a = mI ∨ a < 100) := by
  have h0 : sgn mI = -1 := rfl
  have h1 : sgn 99 = 99 := rfl
  have h2 : mI = 4294967295 := rfl
  rw [h0, h1]
  unfold sgn
  split <;> omega
theorem ms_gen {dd m w p : Nat} (hd : dd < 4294967296) (hw : w < 4294967296) (hE : w_fit (d + 1) E) (hO : SOK σ) (y0 : I 63 11 = σ 1 0 0)
    (k0 : ¬ q_says σ dd w → V mX8_say E Ω 0 0 (SH u v) I L 56 [(0, .ref (Ω.1 + 63)), (1, .int (nI dd)), (2, .int (nI m)), (3, .int (nI w)), (4, .int (nI p))] [])
    (k1 : q_says σ dd w → V mX8_say E Ω 0 0 (SH u v) I L 68 [(0, .ref (Ω.1 + 63)), (1, .int (nI dd)), (2, .int (nI m)), (3, .int (nI w)), (4, .int (nI p))] []) :
    V mX8_say E Ω 0 0 (SH u v) I L 28 [(0, .ref (Ω.1 + 63)), (1, .int (nI dd)), (2, .int (nI m)), (3, .int (nI w)), (4, .int (nI p))] [] := by
  have h60 := hO.2.1.1
  refine V_aload_n 28 0 dX8_say_28 rfl ?_
  refine V_getI 29 flX8_242 dX8_say_29 rfl ?_
  refine V_bip 32 60 dX8_say_32 rfl ?_
  rw [y0]
  refine V_cN_eq 34 56 dX8_say_34 (by decide) (by omega) (by omega) (fun c => ?_) (fun c => ?_)
  · exact k0 (fun h => by have := h.1; omega)
  refine V_iload_n 37 1 dX8_say_37 rfl ?_
  refine V_cst 38 4294967295 dX8_say_38 rfl ?_
  refine V_bip 39 99 dX8_say_39 rfl ?_
  refine V_si 41 msX8_131 dX8_say_41 (w_fit.mono (by omega) hE) (m_isIn (d := d) (a := dd) (lo := mI) (hi := 99) hd (by decide) (by decide)) rfl (Nat.le_of_ble_eq_true rfl) ?_
  rintro _ _ _ _ ⟨rfl, rfl, rfl, rfl⟩
  simp only [sgn_in hd]
  by_cases h1 : dd = mI ∨ dd < 100
  · rw [if_pos h1]
    refine V_zN_eq 44 56 dX8_say_44 (by decide) (by omega) (fun c1 => ?_) (fun c1 => ?_)
    · exact absurd c1 (by decide)
    refine V_iload_n 47 3 dX8_say_47 rfl ?_
    refine V_cst 48 0 dX8_say_48 rfl ?_
    refine V_cst 49 1 dX8_say_49 rfl ?_
    refine V_si 50 msX8_131 dX8_say_50 (w_fit.mono (by omega) hE) (m_isIn (d := d) (a := w) (lo := 0) (hi := 1) hw (by decide) (by decide)) rfl (Nat.le_of_ble_eq_true rfl) ?_
    rintro _ _ _ _ ⟨rfl, rfl, rfl, rfl⟩
    have hin : (sgn 0 ≤ sgn w ∧ sgn w ≤ sgn 1) ↔ w < 2 := m_in (n := 2) hw (by decide)
    simp only [hin]
    by_cases h2 : w < 2
    · rw [if_pos h2]
      refine V_zN_ne 53 68 dX8_say_53 (by decide) (by omega) (fun c2 => ?_) (fun c2 => ?_)
      · exact k1 ⟨by omega, h1, h2⟩
      · exact absurd c2 (by decide)
    · rw [if_neg h2]
      refine V_zN_ne 53 68 dX8_say_53 (by decide) (by omega) (fun c2 => ?_) (fun c2 => ?_)
      · exact absurd rfl c2
      · exact k0 (fun h => h2 h.2.2)
  · rw [if_neg h1]
    refine V_zN_eq 44 56 dX8_say_44 (by decide) (by omega) (fun c1 => ?_) (fun c1 => ?_)
    · exact k0 (fun h => h1 h.2.1)
    · exact absurd rfl c1
theorem ms_28 {dd m w p : Nat} (hm : m < 4294967296) (hp : p < 4294967296) (hE : w_fit (d + 1) E) (hO : SOK σ) (hM : MInv σ I)
    (k0 : ¬ (m < σ 0 2 0 ∧ p < σ 0 6 0) → V mX8_say E Ω 0 0 (SH u v) (w_put I 63 0 0) L 22 [(0, .ref (Ω.1 + 63)), (1, .int (nI dd)), (2, .int (nI m)), (3, .int (nI w)), (4, .int (nI p))] [])
    (k1 : (m < σ 0 2 0 ∧ p < σ 0 6 0) → V mX8_say E Ω 0 0 (SH u v) (w_put I 63 0 0) L 28 [(0, .ref (Ω.1 + 63)), (1, .int (nI dd)), (2, .int (nI m)), (3, .int (nI w)), (4, .int (nI p))] []) :
    V mX8_say E Ω 0 0 (SH u v) I L 0 [(0, .ref (Ω.1 + 63)), (1, .int (nI dd)), (2, .int (nI m)), (3, .int (nI w)), (4, .int (nI p))] [] := by
  have hM1 : MInv σ (w_put I 63 0 0) := hM.code
  refine V_aload_n 0 0 dX8_say_0 rfl ?_
  refine V_cst 1 0 dX8_say_1 rfl ?_
  refine V_putI 2 flX8_128 ft_8_0 dX8_say_2 rfl ?_
  refine V_aload_n 5 0 dX8_say_5 rfl ?_
  refine V_iload_n 6 2 dX8_say_6 rfl ?_
  refine V_vi 7 mvX8_255 dX8_say_7 ⟨_, _, _, rfl, rfl, rfl⟩ (w_fit.mono (by omega) hE) (m_isMeeting (d := d) hm hO.1 hM1.1) rfl (Nat.le_of_ble_eq_true rfl) ?_
  rintro _ _ _ _ ⟨rfl, rfl, rfl, rfl⟩
  by_cases h1 : m < σ 0 2 0
  · rw [if_pos h1]
    refine V_zN_eq 10 22 dX8_say_10 (by decide) (by omega) (fun c => ?_) (fun c => ?_)
    · exact absurd c (by decide)
    refine V_aload_n 13 0 dX8_say_13 rfl ?_
    refine V_iload 14 4 dX8_say_14 rfl ?_
    refine V_vi 16 mvX8_258 dX8_say_16 ⟨_, _, _, rfl, rfl, rfl⟩ (w_fit.mono (by omega) hE) (m_isPromise (d := d) hp hO.1 hM1.1) rfl (Nat.le_of_ble_eq_true rfl) ?_
    rintro _ _ _ _ ⟨rfl, rfl, rfl, rfl⟩
    by_cases h2 : p < σ 0 6 0
    · rw [if_pos h2]
      refine V_zN_ne 19 28 dX8_say_19 (by decide) (by omega) (fun c1 => ?_) (fun c1 => ?_)
      · exact k1 ⟨h1, h2⟩
      · exact absurd c1 (by decide)
    · rw [if_neg h2]
      refine V_zN_ne 19 28 dX8_say_19 (by decide) (by omega) (fun c1 => ?_) (fun c1 => ?_)
      · exact absurd rfl c1
      · exact k0 (fun h => h2 h.2)
  · rw [if_neg h1]
    refine V_zN_eq 10 22 dX8_say_10 (by decide) (by omega) (fun c => ?_) (fun c => ?_)
    · exact k0 (fun h => h1 h.1)
    · exact absurd rfl c
theorem m_sayT {dd m w p : Nat} (hm : m < 4294967296) (hp : p < 4294967296) (hO : SOK σ) (hM : MInv σ I) (h : ¬ (m < σ 0 2 0 ∧ p < σ 0 6 0)) : FnI Ω (d + 2) mX8_say [.ref (Ω.1 + 63), .int (nI dd), .int (nI m), .int (nI w), .int (nI p)] (SH u v) I L (MO u v L I σ 1 0) := by
  have hM1 : MInv σ (w_put I 63 0 0) := hM.code
  refine FnR_of okX8_say (Nat.le_of_ble_eq_true rfl) fun l z => ?_
  have hE : w_fit (d + 1) (w_Er l (d + 2) 0 0 Ω (w_pi (MO u v L I σ 1 0)) z) := w_fit_r
  show V _ _ _ _ _ _ _ _ 0 [(0, _), (1, _), (2, _), (3, _), (4, _)] []
  refine ms_28 hm hp hE hO hM (fun _ => ?_) (fun h' => absurd h' h)
  refine V_aload_n 22 0 dX8_say_22 rfl ?_
  refine V_cst 23 1 dX8_say_23 rfl ?_
  refine V_vi 24 mvX8_232 dX8_say_24 ⟨_, _, _, rfl, rfl, rfl⟩ (w_fit.mono (by omega) hE) (m_fail (d := d) (x := 1)) rfl (Nat.le_of_ble_eq_true rfl) ?_
  rintro _ _ _ _ ⟨rfl, rfl, rfl, rfl⟩
  exact V_iret 27 dX8_say_27 rfl ⟨rfl, rfl, w_put_same _ _ _ _, fun e => absurd e (by decide), hM1.code, (FrM.rf.put (by decide) (by decide)).put (by decide) (by decide)⟩
theorem m_say0 {dd m w p : Nat} (hd : dd < 4294967296) (hw : w < 4294967296) (hm : m < 4294967296) (hp : p < 4294967296) (hO : SOK σ) (hM : MInv σ I) (h : m < σ 0 2 0 ∧ p < σ 0 6 0) (hq : ¬ q_says σ dd w) : FnI Ω (d + 2) mX8_say [.ref (Ω.1 + 63), .int (nI dd), .int (nI m), .int (nI w), .int (nI p)] (SH u v) I L (MO u v L I (z_put σ 3 (w_put (σ 3) 4 0 (σ 3 4 0 + 1))) 0 mI) := by
  have hM1 : MInv σ (w_put I 63 0 0) := hM.code
  refine FnR_of okX8_say (Nat.le_of_ble_eq_true rfl) fun l z => ?_
  have hE : w_fit (d + 1) (w_Er l (d + 2) 0 0 Ω (w_pi (MO u v L I (z_put σ 3 (w_put (σ 3) 4 0 (σ 3 4 0 + 1))) 0 mI)) z) := w_fit_r
  show V _ _ _ _ _ _ _ _ 0 [(0, _), (1, _), (2, _), (3, _), (4, _)] []
  refine ms_28 hm hp hE hO hM (fun h' => absurd h h') (fun _ => ms_gen hd hw hE hO hM1.2.1.1 (fun _ => ?_) (fun h' => absurd h' hq))
  obtain ⟨h1, h2, h3, h4, h5, h6, h7, h8⟩ := hM1
  refine V_aload_n 56 0 dX8_say_56 rfl ?_
  refine V_getR 57 flX8_52 dX8_say_57 rfl ?_
  refine V_cst 60 1 dX8_say_60 rfl ?_
  refine V_dup2 61 dX8_say_61 rfl rfl ?_
  refine V_iald 62 dX8_say_62 rfl (by omega) (by omega) ?_
  refine V_cst 63 1 dX8_say_63 rfl ?_
  refine V_add 64 dX8_say_64 ?_
  refine V_iast 65 dX8_say_65 rfl (by omega) (by omega) ?_
  refine V_cst 66 4294967295 dX8_say_66 rfl ?_
  rw [h5.2.2]
  refine V_iret 67 dX8_say_67 rfl ⟨rfl, rfl, ?_, fun _ => rfl, ⟨h1.of (fun i a b => w_put_ne _ _ (by omega)), h2.of rfl (fun i a b => w_put_ne _ _ (by omega)), h3.of (fun i a b => w_put_ne _ _ (by omega)), h4.of rfl rfl, ⟨h5.1, ?_, ?_⟩, h6.of rfl rfl, h7.of rfl rfl (fun i hi => w_put_ne _ _ (by omega)), h8.of rfl rfl⟩, (FrM.rf.put (by decide) (by decide)).put (by decide) (by decide)⟩
  · rw [w_put_other _ (Or.inl (by decide)), w_put_same]
  · rw [w_put_other _ (Or.inr (by decide))]; exact h5.2.1
  · rw [w_put_same]; rfl
theorem m_say1 {dd m w p : Nat} (hd : dd < 4294967296) (hw : w < 4294967296) (hm : m < 4294967296) (hp : p < 4294967296) (hO : SOK σ) (hM : MInv σ I) (h : m < σ 0 2 0 ∧ p < σ 0 6 0) (hq : q_says σ dd w) : FnI Ω (d + 2) mX8_say [.ref (Ω.1 + 63), .int (nI dd), .int (nI m), .int (nI w), .int (nI p)] (SH u v) I L (MO u v L I (z_put σ 1 (s_addY (σ 1) dd m w p)) 0 (σ 1 0 0 + 1)) := by
  have hM1 : MInv σ (w_put I 63 0 0) := hM.code
  have h60 := hq.1
  refine FnR_of okX8_say (Nat.le_of_ble_eq_true rfl) fun l z => ?_
  have hE : w_fit (d + 1) (w_Er l (d + 2) 0 0 Ω (w_pi (MO u v L I (z_put σ 1 (s_addY (σ 1) dd m w p)) 0 (σ 1 0 0 + 1))) z) := w_fit_r
  show V _ _ _ _ _ _ _ _ 0 [(0, _), (1, _), (2, _), (3, _), (4, _)] []
  refine ms_28 hm hp hE hO hM (fun h' => absurd h h') (fun _ => ms_gen hd hw hE hO hM1.2.1.1 (fun h' => absurd hq h') (fun _ => ?_))
  obtain ⟨y0, y1⟩ := hM1.2.1
  refine V_aload_n 68 0 dX8_say_68 rfl ?_
  refine V_getR 69 flX8_40 dX8_say_69 rfl ?_
  refine V_aload_n 72 0 dX8_say_72 rfl ?_
  refine V_getI 73 flX8_242 dX8_say_73 rfl ?_
  rw [y0]
  refine V_iload_n 76 1 dX8_say_76 rfl ?_
  refine V_iast 77 dX8_say_77 rfl (by omega) (by omega) ?_
  refine V_aload_n 78 0 dX8_say_78 rfl ?_
  refine V_getR 79 flX8_43 dX8_say_79 rfl ?_
  refine V_aload_n 82 0 dX8_say_82 rfl ?_
  refine V_getI 83 flX8_242 dX8_say_83 rfl ?_
  rw [w_put_other (w_put I 63 0 0) (Or.inl (by decide)), y0]
  refine V_iload_n 86 2 dX8_say_86 rfl ?_
  refine V_iast 87 dX8_say_87 rfl (by omega) (by omega) ?_
  refine V_aload_n 88 0 dX8_say_88 rfl ?_
  refine V_getR 89 flX8_46 dX8_say_89 rfl ?_
  refine V_aload_n 92 0 dX8_say_92 rfl ?_
  refine V_getI 93 flX8_242 dX8_say_93 rfl ?_
  rw [w_put_other _ (Or.inl (by decide)), w_put_other (w_put I 63 0 0) (Or.inl (by decide)), y0]
  refine V_iload_n 96 3 dX8_say_96 rfl ?_
  refine V_iast 97 dX8_say_97 rfl (by omega) (by omega) ?_
  refine V_aload_n 98 0 dX8_say_98 rfl ?_
  refine V_getR 99 flX8_49 dX8_say_99 rfl ?_
  refine V_aload_n 102 0 dX8_say_102 rfl ?_
  refine V_getI 103 flX8_242 dX8_say_103 rfl ?_
  rw [w_put_other _ (Or.inl (by decide)), w_put_other _ (Or.inl (by decide)), w_put_other (w_put I 63 0 0) (Or.inl (by decide)), y0]
  refine V_iload 106 4 dX8_say_106 rfl ?_
  refine V_iast 108 dX8_say_108 rfl (by omega) (by omega) ?_
  refine V_aload_n 109 0 dX8_say_109 rfl ?_
  refine V_dup 110 dX8_say_110 rfl ?_
  refine V_getI 111 flX8_242 dX8_say_111 rfl ?_
  rw [w_put_other _ (Or.inl (by decide)), w_put_other _ (Or.inl (by decide)), w_put_other _ (Or.inl (by decide)), w_put_other (w_put I 63 0 0) (Or.inl (by decide)), y0]
  refine V_cst 114 1 dX8_say_114 rfl ?_
  refine V_add 115 dX8_say_115 ?_
  refine V_putI 116 flX8_242 ft_8_11 dX8_say_116 rfl ?_
  refine V_aload_n 119 0 dX8_say_119 rfl ?_
  refine V_getI 120 flX8_242 dX8_say_120 rfl ?_
  refine V_iret 123 dX8_say_123 rfl ⟨rfl, rfl, ?_, fun _ => by rw [w_put_same], hM1.y ⟨?_, fun s hs => ?_⟩ (fun i a b => ?_) (fun j a b => ?_), ?_⟩
  · simp [w_put_eq]
  · unfold s_addY; rw [w_put_same, w_put_same]
  · unfold s_addY at hs ⊢
    rw [w_put_same] at hs
    by_cases e : s = σ 1 0 0
    · subst e; simp [w_put_eq]
    · have := y1 s (by omega)
      simpa [w_put_eq, e] using this
  · rw [w_put_ne _ _ a, w_put_ne _ _ (by omega), w_put_ne _ _ (by omega), w_put_ne _ _ (by omega), w_put_ne _ _ (by omega)]
  · rw [w_put_other _ (Or.inr b), w_put_ne _ _ (by decide), w_put_ne _ _ (by decide), w_put_ne _ _ (by decide), w_put_ne _ _ (by decide)]
  · exact (((((FrM.rf.put (by decide) (by decide)).put (by decide) (by decide)).put (by decide) (by decide)).put (by decide) (by decide)).put (by decide) (by decide)).put (by decide) (by decide)
end
