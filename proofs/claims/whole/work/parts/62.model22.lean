/-! the plan that the model's reader builds lies in the second halves -/
def MPX (P : w_R) (I : w_I) : Prop := I 64 3 = P 0 0 ∧ I 64 4 = P 2 0 ∧ I 64 5 = P 6 0 ∧ (∀ j, j < 6 → I 65 (6 + j) = P 1 j) ∧ (∀ j, j < P 2 0 → I 66 (12 + j) = P 3 j ∧ I 67 (12 + j) = P 4 j ∧ I 68 (12 + j) = P 5 j) ∧ ∀ j, j < P 6 0 → I 69 (12 + j) = P 7 j ∧ I 70 (12 + j) = P 8 j ∧ I 71 (12 + j) = P 9 j ∧ I 72 (12 + j) = P 10 j ∧ I 73 (12 + j) = P 11 j
def FrU (I I' : w_I) : Prop := (∀ i, i < 63 ∨ 73 < i → I' i = I i) ∧ (∀ j, j < 19 ∨ j = 20 ∨ 26 < j → I' 63 j = I 63 j) ∧ (∀ j, j < 3 → I' 64 j = I 64 j) ∧ (∀ j, j < 6 → I' 65 j = I 65 j) ∧ ∀ i, 66 ≤ i → i ≤ 73 → ∀ j, j < 12 → I' i j = I i j
theorem FrU.rf {I : w_I} : FrU I I := ⟨fun _ _ => rfl, fun _ _ => rfl, fun _ _ => rfl, fun _ _ => rfl, fun _ _ _ _ _ => rfl⟩
theorem FrU.trans {I I' I'' : w_I} (h : FrU I I') (h' : FrU I' I'') : FrU I I'' := ⟨fun i hi => (h'.1 i hi).trans (h.1 i hi), fun j h1 => (h'.2.1 j h1).trans (h.2.1 j h1), fun j h1 => (h'.2.2.1 j h1).trans (h.2.2.1 j h1), fun j h1 => (h'.2.2.2.1 j h1).trans (h.2.2.2.1 j h1), fun i a b j c => (h'.2.2.2.2 i a b j c).trans (h.2.2.2.2 i a b j c)⟩
theorem FrX.u {I I' : w_I} (h : FrX I I') : FrU I I' := ⟨fun i hi => h.1 i (by omega), h.2, fun j _ => by rw [h.1 64 (by decide)], fun j _ => by rw [h.1 65 (by decide)], fun i a b j _ => by rw [h.1 i (by omega)]⟩
theorem FrU.put {I I' : w_I} {i j x : Nat} (h : FrU I I') (hi : (i = 64 ∧ 3 ≤ j) ∨ (i = 65 ∧ 6 ≤ j) ∨ (66 ≤ i ∧ i ≤ 73 ∧ 12 ≤ j)) : FrU I (w_put I' i j x) := by
  refine ⟨fun q hq => (w_put_ne I' q (by omega)).trans (h.1 q hq), fun q hq => ?_, fun q hq => ?_, fun q hq => ?_, fun q a b c e => ?_⟩
  · rw [w_put_other _ (Or.inl (by omega))]; exact h.2.1 q hq
  · rw [w_put_other _ (by omega)]; exact h.2.2.1 q hq
  · rw [w_put_other _ (by omega)]; exact h.2.2.2.1 q hq
  · rw [w_put_other _ (by omega)]; exact h.2.2.2.2 q a b c e
theorem MTX.fru {T : Nat → Nat} {n : Nat} {I I' : w_I} (h : MTX T n I) (hf : FrU I I') : MTX T n I' := by
  unfold MTX
  rw [hf.1 79 (by decide), hf.2.1 20 (by decide)]
  exact h
theorem MPX.x {P : w_R} {I I' : w_I} (h : MPX P I) (hf : FrX I I') : MPX P I' := by
  unfold MPX
  rw [hf.1 64 (by decide), hf.1 65 (by decide), hf.1 66 (by decide), hf.1 67 (by decide), hf.1 68 (by decide), hf.1 69 (by decide), hf.1 70 (by decide), hf.1 71 (by decide), hf.1 72 (by decide), hf.1 73 (by decide)]
  exact h
theorem MPX.put {P : w_R} {I : w_I} {i j x : Nat} (h : MPX P I) (hi : (66 ≤ i ∧ i ≤ 68 ∧ j = 12 + P 2 0) ∨ (69 ≤ i ∧ i ≤ 73 ∧ j = 12 + P 6 0)) : MPX P (w_put I i j x) := by
  obtain ⟨h0, h1, h2, h3, h4, h5⟩ := h
  refine ⟨?_, ?_, ?_, fun q hq => ?_, fun q hq => ?_, fun q hq => ?_⟩
  · rw [w_put_other _ (by omega)]; exact h0
  · rw [w_put_other _ (by omega)]; exact h1
  · rw [w_put_other _ (by omega)]; exact h2
  · rw [w_put_other _ (by omega)]; exact h3 q hq
  · rw [w_put_other _ (by omega), w_put_other _ (by omega), w_put_other _ (by omega)]; exact h4 q hq
  · rw [w_put_other _ (by omega), w_put_other _ (by omega), w_put_other _ (by omega), w_put_other _ (by omega), w_put_other _ (by omega)]; exact h5 q hq
theorem BD.u {q : Nat × Nat} {I : w_I} {i j x : Nat} (h : BD q I) (hi : i ≠ 63) : BD q (w_put I i j x) := by
  unfold BD
  rw [w_put_ne I 63 (fun e => hi e.symm)]
  exact h
theorem GD.u {T : Nat → Nat} {n e : Nat} {I : w_I} {i j x : Nat} (h : GD T n e I) (hi : i ≠ 63) : GD T n e (w_put I i j x) := by
  unfold GD MRT
  rw [w_put_ne I 63 (fun e => hi e.symm)]
  exact h
theorem MTX.u {T : Nat → Nat} {n : Nat} {I : w_I} {i j x : Nat} (h : MTX T n I) (hi : i ≠ 63) (h2 : i ≠ 79) : MTX T n (w_put I i j x) := by
  unfold MTX
  rw [w_put_ne I 63 (fun e => hi e.symm), w_put_ne I 79 (fun e => h2 e.symm)]
  exact h
def x_meet1 (T : Nat → Nat) (n : Nat) (P : w_R) (e : Nat) : x_E (w_R × Nat) := x_num T n (x_en T n e) 0 (P 0 0) 3 >>= fun a => x_oth T n a.2 a.1 (P 0 0) >>= fun b => x_hr T n b.2 >>= fun c => .ok (s_addM P a.1 b.1 c.1, c.2)
def x_prom1 (T : Nat → Nat) (n : Nat) (P : w_R) (e : Nat) : x_E (w_R × Nat) := x_num T n (x_en T n e) 0 (P 0 0) 3 >>= fun a => x_oth T n a.2 a.1 (P 0 0) >>= fun b => x_day T n b.2 >>= fun c => x_hr T n c.2 >>= fun h => x_on T n (P 6 0) h.2 >>= fun l => .ok (s_addP P a.1 b.1 c.1 h.1 l.1, l.2)
/-- how a piece of a line ends in the model -/
abbrev LM (u v : Nat) (T : Nat → Nat) (n : Nat) (L : w_L) (I : w_I) (x : x_E (w_R × Nat)) : List w_SC → w_I → w_L → Prop := fun S' I' L' => S' = SH u v ∧ L = L' ∧ FrU I I' ∧ ((∃ q, x = .error q ∧ BD q I') ∨ ∃ q, x = .ok q ∧ GD T n q.2 I' ∧ MPX q.1 I')
theorem MPX.meet {P : w_R} {I : w_I} {a b c : Nat} (h : MPX P I) (ha : I 66 (12 + P 2 0) = a) (hb : I 67 (12 + P 2 0) = b) (hc : I 68 (12 + P 2 0) = c) : MPX (s_addM P a b c) (w_put I 64 4 (P 2 0 + 1)) := by
  obtain ⟨h0, h1, h2, h3, h4, h5⟩ := h
  unfold s_addM
  refine ⟨?_, ?_, ?_, fun q hq => ?_, fun q hq => ?_, fun q hq => ?_⟩
  · simp [w_put_eq, h0]
  · simp [w_put_eq]
  · simp [w_put_eq, h2]
  · simp [w_put_eq, h3 q hq]
  · simp [w_put_eq] at hq
    simp [w_put_eq]
    by_cases e : q = P 2 0
    · simp [e, ha, hb, hc]
    · simp [e]
      exact h4 q (by omega)
  · simp [w_put_eq] at hq
    simp [w_put_eq]
    exact h5 q hq
section
variable {Ω : w_O} {d u v : Nat} {L : w_L} {E : w_E} {T : Nat → Nat} {n : Nat} {P : w_R}
theorem m_readMeeting1 {I : w_I} {e : Nat} (h256 : ∀ j, T j < 256) (hP : s_POK P) (h12 : P 2 0 < 12) (hM : MPX P I) (hG : GD T n e I) (hT : MTX T n I) : FnV Ω (d + 6) mX8_readMeeting [.ref (Ω.1 + 63)] (SH u v) I L (LM u v T n L I (x_meet1 T n P e)) := by
  have h6 := hP.1.2
  refine FnR_of1 okX8_readMeeting (Nat.le_of_ble_eq_true rfl) fun l z hE => ?_
  show V _ _ _ _ _ _ _ _ 0 [(0, _)] []
  have t96 : ∀ q J, x_meet1 T n P e = .error q → BD q J → FrU I J → V mX8_readMeeting (w_Er l (d + 6) 0 0 Ω (w_pv (LM u v T n L I (x_meet1 T n P e))) z) Ω 0 0 (SH u v) J L 96 [(0, .ref (Ω.1 + 63)), (1, .int (nI (12 + P 2 0)))] [] := by
    intro q J hx hB hF
    refine V_aload_n 96 0 dX8_readMeeting_96 rfl ?_
    refine V_getR 97 flX8_22 dX8_readMeeting_97 rfl ?_
    refine V_iload_n 100 1 dX8_readMeeting_100 rfl ?_
    refine V_aload_n 101 0 dX8_readMeeting_101 rfl ?_
    refine V_cst 102 0 dX8_readMeeting_102 rfl ?_
    refine V_bip 103 11 dX8_readMeeting_103 rfl ?_
    refine V_vi 105 mvX8_207 dX8_readMeeting_105 ⟨_, _, _, rfl, rfl, rfl⟩ (w_fit.mono (by omega) hE) (m_readNumber0 (d := d) hB) rfl (Nat.le_of_ble_eq_true rfl) ?_
    rintro _ _ _ _ ⟨rfl, rfl, rfl, rfl⟩
    refine V_iast 108 dX8_readMeeting_108 rfl (by omega) (by omega) ?_
    refine V_aload_n 109 0 dX8_readMeeting_109 rfl ?_
    refine V_getR 110 flX8_7 dX8_readMeeting_110 rfl ?_
    refine V_cst 113 4 dX8_readMeeting_113 rfl ?_
    refine V_dup2 114 dX8_readMeeting_114 rfl rfl ?_
    refine V_iald 115 dX8_readMeeting_115 rfl (by omega) (by omega) ?_
    refine V_cst 116 1 dX8_readMeeting_116 rfl ?_
    refine V_add 117 dX8_readMeeting_117 ?_
    refine V_iast 118 dX8_readMeeting_118 rfl (by omega) (by omega) ?_
    exact V_ret 119 dX8_readMeeting_119 rfl ⟨rfl, rfl, (hF.put (Or.inr (Or.inr ⟨by decide, by decide, by omega⟩))).put (Or.inl ⟨rfl, by decide⟩), Or.inl ⟨q, hx, (hB.u (by decide)).u (by decide)⟩⟩
  have t90 : ∀ q J, x_meet1 T n P e = .error q → BD q J → FrU I J → V mX8_readMeeting (w_Er l (d + 6) 0 0 Ω (w_pv (LM u v T n L I (x_meet1 T n P e))) z) Ω 0 0 (SH u v) J L 90 [(0, .ref (Ω.1 + 63)), (1, .int (nI (12 + P 2 0)))] [] := by
    intro q J hx hB hF
    refine V_aload_n 90 0 dX8_readMeeting_90 rfl ?_
    refine V_lit 91 (w := 5) "at" (by decide) dX8_readMeeting_91 ?_
    refine V_vv 93 mvX8_203 dX8_readMeeting_93 ⟨_, _, _, rfl, rfl, rfl⟩ (w_fit.mono (by omega) hE) (m_word0 (d := d) (w := 5) hB) rfl (Nat.le_of_ble_eq_true rfl) ?_
    rintro _ _ _ ⟨rfl, rfl, rfl⟩
    exact t96 q J hx hB hF
  have t55 : ∀ q J, x_meet1 T n P e = .error q → BD q J → FrU I J → J 64 3 = P 0 0 → V mX8_readMeeting (w_Er l (d + 6) 0 0 Ω (w_pv (LM u v T n L I (x_meet1 T n P e))) z) Ω 0 0 (SH u v) J L 55 [(0, .ref (Ω.1 + 63)), (1, .int (nI (12 + P 2 0)))] [] := by
    intro q J hx hB hF h3
    have hq5 := hB.2.2.2.1
    refine V_aload_n 55 0 dX8_readMeeting_55 rfl ?_
    refine V_getR 56 flX8_19 dX8_readMeeting_56 rfl ?_
    refine V_iload_n 59 1 dX8_readMeeting_59 rfl ?_
    refine V_aload_n 60 0 dX8_readMeeting_60 rfl ?_
    refine V_aload_n 61 0 dX8_readMeeting_61 rfl ?_
    refine V_getR 62 flX8_7 dX8_readMeeting_62 rfl ?_
    refine V_cst 65 3 dX8_readMeeting_65 rfl ?_
    refine V_iald 66 dX8_readMeeting_66 rfl (by omega) (by omega) ?_
    refine V_aload_n 67 0 dX8_readMeeting_67 rfl ?_
    refine V_getI 68 flX8_173 dX8_readMeeting_68 rfl ?_
    rw [hB.1]
    refine V_zN_ne 71 85 dX8_readMeeting_71 (by decide) (by omega) (fun c => ?_) (fun c => ?_)
    rotate_left
    · exact absurd c (by have := hB.2.2.1; omega)
    refine V_cst 85 0 dX8_readMeeting_85 rfl ?_
    refine V_vi 86 mvX8_199 dX8_readMeeting_86 ⟨_, _, _, rfl, rfl, rfl⟩ (w_fit.mono (by omega) hE) (m_readOne0 (d := d) hB) rfl (Nat.le_of_ble_eq_true rfl) ?_
    rintro _ _ _ _ ⟨rfl, rfl, rfl, rfl⟩
    refine V_iast 89 dX8_readMeeting_89 rfl (by omega) (by omega) ?_
    exact t90 q _ hx (hB.u (by decide)) (hF.put (Or.inr (Or.inr ⟨by decide, by decide, by omega⟩)))
  refine V_aload_n 0 0 dX8_readMeeting_0 rfl ?_
  refine V_getR 1 flX8_7 dX8_readMeeting_1 rfl ?_
  refine V_cst 4 4 dX8_readMeeting_4 rfl ?_
  refine V_iald 5 dX8_readMeeting_5 rfl (by omega) (by omega) ?_
  rw [hM.2.1]
  refine V_bip 6 12 dX8_readMeeting_6 rfl ?_
  refine V_cN_ne 8 16 dX8_readMeeting_8 (by decide) (by omega) (by omega) (fun c => ?_) (fun c => ?_)
  rotate_left
  · omega
  refine V_aload_n 16 0 dX8_readMeeting_16 rfl ?_
  refine V_getI 17 flX8_173 dX8_readMeeting_17 rfl ?_
  rw [hG.1]
  refine V_zN_eq 20 24 dX8_readMeeting_20 (by decide) (by omega) (fun c1 => ?_) (fun c1 => ?_)
  rotate_left
  · exact absurd rfl c1
  refine V_aload_n 24 0 dX8_readMeeting_24 rfl ?_
  refine V_vv 25 mvX8_193 dX8_readMeeting_25 ⟨_, _, _, rfl, rfl, rfl⟩ (w_fit.mono (by omega) hE) (m_stepOn (d := d + 4) hG.2.1.2.2.2.1 (x_en_le hG.2.2).2.2 hT) rfl (Nat.le_of_ble_eq_true rfl) ?_
  rintro _ I1 _ ⟨rfl, rfl, k1, k2⟩
  have hG1 := hG.step k1 k2
  have hM1 := hM.x k2.x
  have hT1 := hT.frx k2.x
  have hF1 : FrU I I1 := k2.x.u
  clear k1 k2
  refine V_bip 28 12 dX8_readMeeting_28 rfl ?_
  refine V_aload_n 30 0 dX8_readMeeting_30 rfl ?_
  refine V_getR 31 flX8_7 dX8_readMeeting_31 rfl ?_
  refine V_cst 34 4 dX8_readMeeting_34 rfl ?_
  refine V_iald 35 dX8_readMeeting_35 rfl (by omega) (by omega) ?_
  rw [hM1.2.1]
  refine V_add 36 dX8_readMeeting_36 ?_
  refine V_istore_n 37 [(0, _), (1, _)] dX8_readMeeting_37 (by decide) rfl ?_
  refine V_aload_n 38 0 dX8_readMeeting_38 rfl ?_
  refine V_getR 39 flX8_16 dX8_readMeeting_39 rfl ?_
  refine V_iload_n 42 1 dX8_readMeeting_42 rfl ?_
  refine V_aload_n 43 0 dX8_readMeeting_43 rfl ?_
  refine V_aload_n 44 0 dX8_readMeeting_44 rfl ?_
  refine V_getR 45 flX8_7 dX8_readMeeting_45 rfl ?_
  refine V_cst 48 3 dX8_readMeeting_48 rfl ?_
  refine V_iald 49 dX8_readMeeting_49 rfl (by omega) (by omega) ?_
  rw [hM1.1]
  refine V_cst 50 0 dX8_readMeeting_50 rfl ?_
  refine V_vi 51 mvX8_199 dX8_readMeeting_51 ⟨_, _, _, rfl, rfl, rfl⟩ (w_fit.mono (by omega) hE) (m_readOne1 (d := d + 3) (b := 0) h256 (by omega) (by decide) hG1 hT1) rfl (Nat.le_of_ble_eq_true rfl) ?_
  rintro _ _ I2 _ ⟨rfl, rfl, g1, g2⟩
  rw [x_l1_0] at g2
  have hM2 := hM1.x g1
  have hT2 := hT1.frx g1
  have hF2 : FrU I I2 := hF1.trans g1.u
  rcases g2 with ⟨⟨a, ea⟩, y1, rfl, hG2⟩ | ⟨q, y1, hB, y, rfl⟩
  rotate_left
  · refine V_iast 54 dX8_readMeeting_54 rfl (by omega) (by omega) ?_
    exact t55 q _ (xb_err y1) (hB.u (by decide)) (hF2.put (Or.inr (Or.inr ⟨by decide, by decide, by omega⟩))) (by rw [w_put_ne _ 64 (by decide)]; exact hM2.1)
  have hG2 : GD T n ea I2 := hG2
  have ha : a < P 0 0 := (x_num_ok y1).2.1
  have em : x_meet1 T n P e = (x_oth T n ea a (P 0 0) >>= fun b => x_hr T n b.2 >>= fun c => .ok (s_addM P a b.1 c.1, c.2)) := xb_ok y1
  rw [em] at t55 t90 t96 ⊢
  refine V_iast 54 dX8_readMeeting_54 rfl (by omega) (by omega) ?_
  have hM3 : MPX P (w_put I2 66 (12 + P 2 0) a) := hM2.put (Or.inl ⟨by decide, by decide, rfl⟩)
  have hG3 : GD T n ea (w_put I2 66 (12 + P 2 0) a) := hG2.u (by decide)
  have hT3 : MTX T n (w_put I2 66 (12 + P 2 0) a) := hT2.u (by decide) (by decide)
  have hF3 : FrU I (w_put I2 66 (12 + P 2 0) a) := hF2.put (Or.inr (Or.inr ⟨by decide, by decide, by omega⟩))
  have a3 : w_put I2 66 (12 + P 2 0) a 66 (12 + P 2 0) = a := w_put_same _ _ _ _
  generalize w_put I2 66 (12 + P 2 0) a = I3 at hM3 hG3 hT3 hF3 a3 ⊢
  refine V_aload_n 55 0 dX8_readMeeting_55 rfl ?_
  refine V_getR 56 flX8_19 dX8_readMeeting_56 rfl ?_
  refine V_iload_n 59 1 dX8_readMeeting_59 rfl ?_
  refine V_aload_n 60 0 dX8_readMeeting_60 rfl ?_
  refine V_aload_n 61 0 dX8_readMeeting_61 rfl ?_
  refine V_getR 62 flX8_7 dX8_readMeeting_62 rfl ?_
  refine V_cst 65 3 dX8_readMeeting_65 rfl ?_
  refine V_iald 66 dX8_readMeeting_66 rfl (by omega) (by omega) ?_
  rw [hM3.1]
  refine V_aload_n 67 0 dX8_readMeeting_67 rfl ?_
  refine V_getI 68 flX8_173 dX8_readMeeting_68 rfl ?_
  rw [hG3.1]
  refine V_zN_ne 71 85 dX8_readMeeting_71 (by decide) (by omega) (fun c2 => ?_) (fun c2 => ?_)
  · exact absurd rfl c2
  refine V_cst 74 1 dX8_readMeeting_74 rfl ?_
  refine V_aload_n 75 0 dX8_readMeeting_75 rfl ?_
  refine V_getR 76 flX8_16 dX8_readMeeting_76 rfl ?_
  refine V_iload_n 79 1 dX8_readMeeting_79 rfl ?_
  refine V_iald 80 dX8_readMeeting_80 rfl (by omega) (by omega) ?_
  rw [a3]
  refine V_shl 81 dX8_readMeeting_81 (by omega) ?_
  refine V_goto 82 86 dX8_readMeeting_82 (by decide) ?_
  rw [Nat.one_mul]
  refine V_vi 86 mvX8_199 dX8_readMeeting_86 ⟨_, _, _, rfl, rfl, rfl⟩ (w_fit.mono (by omega) hE) (m_readOne1 (d := d + 3) (b := 2 ^ a) h256 (by omega) (p12 (by omega)) hG3 hT3) rfl (Nat.le_of_ble_eq_true rfl) ?_
  rintro _ _ I4 _ ⟨rfl, rfl, g1, g2⟩
  rw [x_l1_oth ha] at g2
  have hM4 := hM3.x g1
  have hT4 := hT3.frx g1
  have hF4 : FrU I I4 := hF3.trans g1.u
  have a4 : I4 66 (12 + P 2 0) = a := by rw [g1.1 66 (by decide)]; exact a3
  rcases g2 with ⟨⟨b, eb⟩, y2, rfl, hG4⟩ | ⟨q, y2, hB, y, rfl⟩
  rotate_left
  · refine V_iast 89 dX8_readMeeting_89 rfl (by omega) (by omega) ?_
    exact t90 q _ (xb_err y2) (hB.u (by decide)) (hF4.put (Or.inr (Or.inr ⟨by decide, by decide, by omega⟩)))
  have hG4 : GD T n eb I4 := hG4
  rw [xb_ok y2] at t90 t96 ⊢
  dsimp only at t90 t96 ⊢
  refine V_iast 89 dX8_readMeeting_89 rfl (by omega) (by omega) ?_
  have hM5 : MPX P (w_put I4 67 (12 + P 2 0) b) := hM4.put (Or.inl ⟨by decide, by decide, rfl⟩)
  have hG5 : GD T n eb (w_put I4 67 (12 + P 2 0) b) := hG4.u (by decide)
  have hT5 : MTX T n (w_put I4 67 (12 + P 2 0) b) := hT4.u (by decide) (by decide)
  have hF5 : FrU I (w_put I4 67 (12 + P 2 0) b) := hF4.put (Or.inr (Or.inr ⟨by decide, by decide, by omega⟩))
  have a5 : w_put I4 67 (12 + P 2 0) b 66 (12 + P 2 0) = a := by rw [w_put_ne _ 66 (by decide)]; exact a4
  have b5 : w_put I4 67 (12 + P 2 0) b 67 (12 + P 2 0) = b := w_put_same _ _ _ _
  generalize w_put I4 67 (12 + P 2 0) b = I5 at hM5 hG5 hT5 hF5 a5 b5 ⊢
  refine V_aload_n 90 0 dX8_readMeeting_90 rfl ?_
  refine V_lit 91 (w := 5) "at" (by decide) dX8_readMeeting_91 ?_
  refine V_vv 93 mvX8_203 dX8_readMeeting_93 ⟨_, _, _, rfl, rfl, rfl⟩ (w_fit.mono (by omega) hE) (m_word1 (d := d) (w := 5) (by decide) hG5 hT5) rfl (Nat.le_of_ble_eq_true rfl) ?_
  rintro _ I6 _ ⟨rfl, rfl, g1, g2⟩
  have hM6 := hM5.x g1
  have hT6 := hT5.frx g1
  have hF6 : FrU I I6 := hF5.trans g1.u
  have a6 : I6 66 (12 + P 2 0) = a := by rw [g1.1 66 (by decide)]; exact a5
  have b6 : I6 67 (12 + P 2 0) = b := by rw [g1.1 67 (by decide)]; exact b5
  rcases g2 with ⟨i1, hG6⟩ | ⟨i1, hB⟩
  rotate_left
  · exact t96 _ _ (xb_err (by unfold x_hr; rw [i1, if_neg (by decide)])) hB hF6
  have eh : x_hr T n eb = x_num T n (x_en T n eb) 0 12 2 := by unfold x_hr; rw [i1, if_pos rfl]
  rw [eh]
  refine V_aload_n 96 0 dX8_readMeeting_96 rfl ?_
  refine V_getR 97 flX8_22 dX8_readMeeting_97 rfl ?_
  refine V_iload_n 100 1 dX8_readMeeting_100 rfl ?_
  refine V_aload_n 101 0 dX8_readMeeting_101 rfl ?_
  refine V_cst 102 0 dX8_readMeeting_102 rfl ?_
  refine V_bip 103 11 dX8_readMeeting_103 rfl ?_
  refine V_vi 105 mvX8_207 dX8_readMeeting_105 ⟨_, _, _, rfl, rfl, rfl⟩ (w_fit.mono (by omega) hE) (m_readNumber1 (d := d + 3) (lo := 0) (top := 11) h256 (by decide) (by decide) hG6 hT6) rfl (Nat.le_of_ble_eq_true rfl) ?_
  rintro _ _ I7 _ ⟨rfl, rfl, g1, g2⟩
  have g2 : (∃ q, x_num T n (x_en T n eb) 0 12 2 = .ok q ∧ _ = nI q.1 ∧ GD T n q.2 I7) ∨ (∃ q, x_num T n (x_en T n eb) 0 12 2 = .error q ∧ BD q I7 ∧ ∃ y, _ = nI y) := g2
  have hM7 := hM6.x g1
  have hF7 : FrU I I7 := hF6.trans g1.u
  have a7 : I7 66 (12 + P 2 0) = a := by rw [g1.1 66 (by decide)]; exact a6
  have b7 : I7 67 (12 + P 2 0) = b := by rw [g1.1 67 (by decide)]; exact b6
  rcases g2 with ⟨⟨c, ec⟩, y3, rfl, hG7⟩ | ⟨q, y3, hB, y, rfl⟩
  rotate_left
  · refine V_iast 108 dX8_readMeeting_108 rfl (by omega) (by omega) ?_
    refine V_aload_n 109 0 dX8_readMeeting_109 rfl ?_
    refine V_getR 110 flX8_7 dX8_readMeeting_110 rfl ?_
    refine V_cst 113 4 dX8_readMeeting_113 rfl ?_
    refine V_dup2 114 dX8_readMeeting_114 rfl rfl ?_
    refine V_iald 115 dX8_readMeeting_115 rfl (by omega) (by omega) ?_
    refine V_cst 116 1 dX8_readMeeting_116 rfl ?_
    refine V_add 117 dX8_readMeeting_117 ?_
    refine V_iast 118 dX8_readMeeting_118 rfl (by omega) (by omega) ?_
    exact V_ret 119 dX8_readMeeting_119 rfl ⟨rfl, rfl, (hF7.put (Or.inr (Or.inr ⟨by decide, by decide, by omega⟩))).put (Or.inl ⟨rfl, by decide⟩), Or.inl ⟨q, xb_err y3, (hB.u (by decide)).u (by decide)⟩⟩
  have hG7 : GD T n ec I7 := hG7
  refine V_iast 108 dX8_readMeeting_108 rfl (by omega) (by omega) ?_
  refine V_aload_n 109 0 dX8_readMeeting_109 rfl ?_
  refine V_getR 110 flX8_7 dX8_readMeeting_110 rfl ?_
  refine V_cst 113 4 dX8_readMeeting_113 rfl ?_
  refine V_dup2 114 dX8_readMeeting_114 rfl rfl ?_
  refine V_iald 115 dX8_readMeeting_115 rfl (by omega) (by omega) ?_
  rw [w_put_ne _ 64 (by decide), hM7.2.1]
  refine V_cst 116 1 dX8_readMeeting_116 rfl ?_
  refine V_add 117 dX8_readMeeting_117 ?_
  refine V_iast 118 dX8_readMeeting_118 rfl (by omega) (by omega) ?_
  refine V_ret 119 dX8_readMeeting_119 rfl ⟨rfl, rfl, (hF7.put (Or.inr (Or.inr ⟨by decide, by decide, by omega⟩))).put (Or.inl ⟨rfl, by decide⟩), Or.inr ⟨_, xb_ok y3, (hG7.u (by decide)).u (by decide), (hM7.put (Or.inl ⟨by decide, by decide, rfl⟩)).meet ?_ ?_ (w_put_same _ _ _ _)⟩⟩
  · rw [w_put_ne _ 66 (by decide)]; exact a7
  · rw [w_put_ne _ 67 (by decide)]; exact b7
theorem m_readMeeting0 {I : w_I} {e : Nat} (h12 : P 2 0 = 12) (hM : MPX P I) (hG : GD T n e I) : FnV Ω (d + 1) mX8_readMeeting [.ref (Ω.1 + 63)] (SH u v) I L (fun S' I' L' => S' = SH u v ∧ L = L' ∧ FrU I I' ∧ BD (2, x_st T n e) I') := by
  refine FnR_of1 okX8_readMeeting (Nat.le_of_ble_eq_true rfl) fun l z hE => ?_
  show V _ _ _ _ _ _ _ _ 0 [(0, _)] []
  refine V_aload_n 0 0 dX8_readMeeting_0 rfl ?_
  refine V_getR 1 flX8_7 dX8_readMeeting_1 rfl ?_
  refine V_cst 4 4 dX8_readMeeting_4 rfl ?_
  refine V_iald 5 dX8_readMeeting_5 rfl (by omega) (by omega) ?_
  rw [hM.2.1, h12]
  refine V_bip 6 12 dX8_readMeeting_6 rfl ?_
  refine V_cN_ne 8 16 dX8_readMeeting_8 (by decide) (by omega) (by omega) (fun c => ?_) (fun c => ?_)
  · exact absurd rfl c
  refine V_aload_n 11 0 dX8_readMeeting_11 rfl ?_
  refine V_cst 12 2 dX8_readMeeting_12 rfl ?_
  refine V_vv 13 mvX8_196 dX8_readMeeting_13 ⟨_, _, _, rfl, rfl, rfl⟩ (w_fit.mono (by omega) hE) (m_wrong (d := d) (f := 2) hG.1) rfl (Nat.le_of_ble_eq_true rfl) ?_
  rintro _ I1 _ ⟨rfl, rfl, k1⟩
  obtain ⟨b1, b2⟩ := BD.wrong hG (f := 2) (by decide) (by decide)
  rw [← k1] at b1 b2
  refine V_aload_n 16 0 dX8_readMeeting_16 rfl ?_
  refine V_getI 17 flX8_173 dX8_readMeeting_17 rfl ?_
  rw [b1.1]
  refine V_zN_eq 20 24 dX8_readMeeting_20 (by decide) (by omega) (fun c1 => ?_) (fun c1 => ?_)
  · exact absurd c1 (by show (2 : Nat) ≠ 0; decide)
  exact V_ret 23 dX8_readMeeting_23 rfl ⟨rfl, rfl, b2.u, b1⟩
end
