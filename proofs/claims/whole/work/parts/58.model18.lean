/-! THE MODEL'S READER: tape 79, numbers of cell 63 (19 at, 20 size, 21 token, 22 number, 23 begins, 24 ends, 25 bad, 26 its place) -/
def MTX (T : Nat → Nat) (n : Nat) (I : w_I) : Prop := n ≤ 700 ∧ I 63 20 = n ∧ ∀ j, j < n → T j < 256 ∧ I 79 j = T j
def FrS (I I' : w_I) : Prop := (∀ i, i ≠ 63 → I' i = I i) ∧ ∀ j, j ≠ 19 → j < 21 ∨ 24 < j → I' 63 j = I 63 j
theorem FrS.rf {I : w_I} : FrS I I := ⟨fun _ _ => rfl, fun _ _ _ => rfl⟩
theorem FrS.trans {I I' I'' : w_I} (h : FrS I I') (h' : FrS I' I'') : FrS I I'' := ⟨fun i hi => (h'.1 i hi).trans (h.1 i hi), fun j h1 h2 => (h'.2 j h1 h2).trans (h.2 j h1 h2)⟩
theorem FrS.put {I I' : w_I} {j x : Nat} (h : FrS I I') (hj : j = 19 ∨ (21 ≤ j ∧ j ≤ 24)) : FrS I (w_put I' 63 j x) := ⟨fun i hi => (w_put_ne I' i hi).trans (h.1 i hi), fun q h1 h2 => by rw [w_put_other _ (Or.inr (by omega))]; exact h.2 q h1 h2⟩
theorem MTX.fr {T : Nat → Nat} {n : Nat} {I I' : w_I} (h : MTX T n I) (hf : FrS I I') : MTX T n I' := by
  unfold MTX
  rw [hf.1 79 (by decide), hf.2 20 (by decide) (by decide)]
  exact h
def MRT (T : Nat → Nat) (n e : Nat) (I : w_I) : Prop := I 63 21 = x_kd T n e ∧ I 63 23 = x_st T n e ∧ I 63 24 = x_en T n e ∧ I 63 19 = x_en T n e ∧ (x_kd T n e = 2 → x_en T n e - x_st T n e ≤ 3 → I 63 22 = x_va T n e)
section
variable {Ω : w_O} {d u v : Nat} {L : w_L} {E : w_E} {T : Nat → Nat} {n : Nat}
theorem m_byteAt {I : w_I} {k : Nat} (hk : k < 1000) (hT : MTX T n I) : FnI Ω d mX8_byteAt [.ref (Ω.1 + 63), .int (nI k)] (SH u v) I L (fun r S' I' L' => r = nI (if k < n then T k else mI) ∧ S' = SH u v ∧ I = I' ∧ L = L') := by
  have hn := hT.1
  refine FnR_of okX8_byteAt (Nat.le_of_ble_eq_true rfl) fun l z => ?_
  show V _ _ _ _ _ _ _ _ 0 [(0, _), (1, _)] []
  refine V_iload_n 0 1 dX8_byteAt_0 rfl ?_
  refine V_aload_n 1 0 dX8_byteAt_1 rfl ?_
  refine V_getI 2 flX8_138 dX8_byteAt_2 rfl ?_
  rw [hT.2.1]
  refine V_cN_ge 5 17 dX8_byteAt_5 (by decide) (by omega) (by omega) (fun c => ?_) (fun c => ?_)
  · refine V_cst 17 4294967295 dX8_byteAt_17 rfl ?_
    exact V_iret 18 dX8_byteAt_18 rfl ⟨by rw [if_neg (by omega)], rfl, rfl, rfl⟩
  · refine V_aload_n 8 0 dX8_byteAt_8 rfl ?_
    refine V_getR 9 flX8_55 dX8_byteAt_9 rfl ?_
    refine V_iload_n 12 1 dX8_byteAt_12 rfl ?_
    refine V_iald 13 dX8_byteAt_13 rfl (by omega) (by omega) ?_
    rw [(hT.2.2 k (by omega)).2]
    refine V_goto 14 18 dX8_byteAt_14 (by decide) ?_
    exact V_iret 18 dX8_byteAt_18 rfl ⟨by rw [if_pos (by omega)], rfl, rfl, rfl⟩
theorem m_isLetter {I : w_I} {c : Nat} (hc : c < 4294967296) : FnI Ω d mX8_isLetter [.int (nI c)] (SH u v) I L (fun r S' I' L' => r = nI (if x_L c then 1 else 0) ∧ S' = SH u v ∧ I = I' ∧ L = L') := by
  have h0 : sgn 97 = 97 := rfl
  have h1 : sgn 122 = 122 := rfl
  refine FnR_of okX8_isLetter (Nat.le_of_ble_eq_true rfl) fun l z => ?_
  show V _ _ _ _ _ _ _ _ 0 [(0, _)] []
  refine V_iload_n 0 0 dX8_isLetter_0 rfl ?_
  refine V_bip 1 97 dX8_isLetter_1 rfl ?_
  refine V_cG_lt 3 16 dX8_isLetter_3 (by decide) (by omega) (by omega) (fun c0 => ?_) (fun c0 => ?_)
  · refine V_cst 16 0 dX8_isLetter_16 rfl ?_
    refine V_zret 17 dX8_isLetter_17 rfl rfl ⟨?_, rfl, rfl, rfl⟩
    have : x_L c = false := by unfold x_L; unfold sgn at c0; simp; split at c0 <;> omega
    rw [this]; rfl
  refine V_iload_n 6 0 dX8_isLetter_6 rfl ?_
  refine V_bip 7 122 dX8_isLetter_7 rfl ?_
  refine V_cG_gt 9 16 dX8_isLetter_9 (by decide) (by omega) (by omega) (fun c1 => ?_) (fun c1 => ?_)
  · refine V_cst 16 0 dX8_isLetter_16 rfl ?_
    refine V_zret 17 dX8_isLetter_17 rfl rfl ⟨?_, rfl, rfl, rfl⟩
    have : x_L c = false := by unfold x_L; unfold sgn at c0 c1; simp; split at c1 <;> omega
    rw [this]; rfl
  · refine V_cst 12 1 dX8_isLetter_12 rfl ?_
    refine V_goto 13 17 dX8_isLetter_13 (by decide) ?_
    refine V_zret 17 dX8_isLetter_17 rfl rfl ⟨?_, rfl, rfl, rfl⟩
    have : x_L c = true := by unfold x_L; unfold sgn at c0 c1; simp; split at c1 <;> omega
    rw [this]; rfl
theorem m_isDigit {I : w_I} {c : Nat} (hc : c < 4294967296) : FnI Ω d mX8_isDigit [.int (nI c)] (SH u v) I L (fun r S' I' L' => r = nI (if x_D c then 1 else 0) ∧ S' = SH u v ∧ I = I' ∧ L = L') := by
  have h0 : sgn 48 = 48 := rfl
  have h1 : sgn 57 = 57 := rfl
  refine FnR_of okX8_isDigit (Nat.le_of_ble_eq_true rfl) fun l z => ?_
  show V _ _ _ _ _ _ _ _ 0 [(0, _)] []
  refine V_iload_n 0 0 dX8_isDigit_0 rfl ?_
  refine V_bip 1 48 dX8_isDigit_1 rfl ?_
  refine V_cG_lt 3 16 dX8_isDigit_3 (by decide) (by omega) (by omega) (fun c0 => ?_) (fun c0 => ?_)
  · refine V_cst 16 0 dX8_isDigit_16 rfl ?_
    refine V_zret 17 dX8_isDigit_17 rfl rfl ⟨?_, rfl, rfl, rfl⟩
    have : x_D c = false := by unfold x_D; unfold sgn at c0; simp; split at c0 <;> omega
    rw [this]; rfl
  refine V_iload_n 6 0 dX8_isDigit_6 rfl ?_
  refine V_bip 7 57 dX8_isDigit_7 rfl ?_
  refine V_cG_gt 9 16 dX8_isDigit_9 (by decide) (by omega) (by omega) (fun c1 => ?_) (fun c1 => ?_)
  · refine V_cst 16 0 dX8_isDigit_16 rfl ?_
    refine V_zret 17 dX8_isDigit_17 rfl rfl ⟨?_, rfl, rfl, rfl⟩
    have : x_D c = false := by unfold x_D; unfold sgn at c0 c1; simp; split at c1 <;> omega
    rw [this]; rfl
  · refine V_cst 12 1 dX8_isDigit_12 rfl ?_
    refine V_goto 13 17 dX8_isDigit_13 (by decide) ?_
    refine V_zret 17 dX8_isDigit_17 rfl rfl ⟨?_, rfl, rfl, rfl⟩
    have : x_D c = true := by unfold x_D; unfold sgn at c0 c1; simp; split at c1 <;> omega
    rw [this]; rfl
theorem so_sp (hE : w_fit d E) : ∀ (k i : Nat) (I : w_I), i + k = n → I 63 19 = i → MTX T n I → (∀ I', FrS I I' → I' 63 19 = x_run x_S T k i → V mX8_stepOn E Ω 0 0 (SH u v) I' L 39 [(0, .ref (Ω.1 + 63))] []) → V mX8_stepOn E Ω 0 0 (SH u v) I L 0 [(0, .ref (Ω.1 + 63))] [] := by
  have hmI : mI = 4294967295 := rfl
  intro k
  induction k with
  | zero =>
    intro i I hi h19 hT hk
    have hn := hT.1
    refine V_aload_n 0 0 dX8_stepOn_0 rfl ?_
    refine V_aload_n 1 0 dX8_stepOn_1 rfl ?_
    refine V_getI 2 flX8_141 dX8_stepOn_2 rfl ?_
    rw [h19]
    refine V_vi 5 mvX8_144 dX8_stepOn_5 ⟨_, _, _, rfl, rfl, rfl⟩ (w_fit.mono (by omega) hE) (m_byteAt (d := d) (k := i) (by omega) hT) rfl (Nat.le_of_ble_eq_true rfl) ?_
    rintro _ _ _ _ ⟨rfl, rfl, rfl, rfl⟩
    rw [if_neg (by omega)]
    refine V_bip 8 32 dX8_stepOn_8 rfl ?_
    refine V_cN_eq 10 26 dX8_stepOn_10 (by decide) (by omega) (by omega) (fun c => ?_) (fun c => ?_)
    · exact absurd c (by decide)
    refine V_aload_n 13 0 dX8_stepOn_13 rfl ?_
    refine V_aload_n 14 0 dX8_stepOn_14 rfl ?_
    refine V_getI 15 flX8_141 dX8_stepOn_15 rfl ?_
    rw [h19]
    refine V_vi 18 mvX8_144 dX8_stepOn_18 ⟨_, _, _, rfl, rfl, rfl⟩ (w_fit.mono (by omega) hE) (m_byteAt (d := d) (k := i) (by omega) hT) rfl (Nat.le_of_ble_eq_true rfl) ?_
    rintro _ _ _ _ ⟨rfl, rfl, rfl, rfl⟩
    rw [if_neg (by omega)]
    refine V_bip 21 10 dX8_stepOn_21 rfl ?_
    refine V_cN_ne 23 39 dX8_stepOn_23 (by decide) (by omega) (by omega) (fun c1 => ?_) (fun c1 => ?_)
    · exact hk I FrS.rf h19
    · exact absurd c1 (by decide)
  | succ k ih =>
    intro i I hi h19 hT hk
    have hn := hT.1
    obtain ⟨t1, t2⟩ := hT.2.2 i (by omega)
    have yes : x_S (T i) = true → V mX8_stepOn E Ω 0 0 (SH u v) I L 26 [(0, .ref (Ω.1 + 63))] [] := by
      intro h
      refine V_aload_n 26 0 dX8_stepOn_26 rfl ?_
      refine V_dup 27 dX8_stepOn_27 rfl ?_
      refine V_getI 28 flX8_141 dX8_stepOn_28 rfl ?_
      rw [h19]
      refine V_cst 31 1 dX8_stepOn_31 rfl ?_
      refine V_add 32 dX8_stepOn_32 ?_
      refine V_putI 33 flX8_141 ft_8_19 dX8_stepOn_33 rfl ?_
      refine V_goto 36 0 dX8_stepOn_36 (by decide) ?_
      have hf : FrS I (w_put I 63 19 (i + 1)) := FrS.rf.put (Or.inl rfl)
      refine ih (i + 1) _ (by omega) (w_put_same _ _ _ _) (hT.fr hf) (fun I' a b => hk I' (hf.trans a) ?_)
      rw [b]
      show _ = if x_S (T i) then _ else _
      rw [if_pos h]
    refine V_aload_n 0 0 dX8_stepOn_0 rfl ?_
    refine V_aload_n 1 0 dX8_stepOn_1 rfl ?_
    refine V_getI 2 flX8_141 dX8_stepOn_2 rfl ?_
    rw [h19]
    refine V_vi 5 mvX8_144 dX8_stepOn_5 ⟨_, _, _, rfl, rfl, rfl⟩ (w_fit.mono (by omega) hE) (m_byteAt (d := d) (k := i) (by omega) hT) rfl (Nat.le_of_ble_eq_true rfl) ?_
    rintro _ _ _ _ ⟨rfl, rfl, rfl, rfl⟩
    rw [if_pos (by omega)]
    refine V_bip 8 32 dX8_stepOn_8 rfl ?_
    refine V_cN_eq 10 26 dX8_stepOn_10 (by decide) (by omega) (by omega) (fun c => ?_) (fun c => ?_)
    · exact yes (by unfold x_S; simp [c])
    refine V_aload_n 13 0 dX8_stepOn_13 rfl ?_
    refine V_aload_n 14 0 dX8_stepOn_14 rfl ?_
    refine V_getI 15 flX8_141 dX8_stepOn_15 rfl ?_
    rw [h19]
    refine V_vi 18 mvX8_144 dX8_stepOn_18 ⟨_, _, _, rfl, rfl, rfl⟩ (w_fit.mono (by omega) hE) (m_byteAt (d := d) (k := i) (by omega) hT) rfl (Nat.le_of_ble_eq_true rfl) ?_
    rintro _ _ _ _ ⟨rfl, rfl, rfl, rfl⟩
    rw [if_pos (by omega)]
    refine V_bip 21 10 dX8_stepOn_21 rfl ?_
    refine V_cN_ne 23 39 dX8_stepOn_23 (by decide) (by omega) (by omega) (fun c1 => ?_) (fun c1 => ?_)
    · refine hk I FrS.rf ?_
      rw [h19]
      show _ = if x_S (T i) then _ else _
      rw [if_neg (by unfold x_S; simp [c, c1])]
    · exact yes (by unfold x_S; simp [c1])
theorem so_le {c0 : Nat} (hE : w_fit d E) : ∀ (k i : Nat) (I : w_I), i + k = n → I 63 19 = i → MTX T n I → (∀ I', FrS I I' → I' 63 19 = x_run x_L T k i → I' 63 23 = I 63 23 → V mX8_stepOn E Ω 0 0 (SH u v) I' L 103 [(0, .ref (Ω.1 + 63)), (1, .int (nI c0))] []) → V mX8_stepOn E Ω 0 0 (SH u v) I L 76 [(0, .ref (Ω.1 + 63)), (1, .int (nI c0))] [] := by
  have hmI : mI = 4294967295 := rfl
  intro k
  induction k with
  | zero =>
    intro i I hi h19 hT hk
    have hn := hT.1
    refine V_aload_n 76 0 dX8_stepOn_76 rfl ?_
    refine V_aload_n 77 0 dX8_stepOn_77 rfl ?_
    refine V_getI 78 flX8_141 dX8_stepOn_78 rfl ?_
    rw [h19]
    refine V_vi 81 mvX8_144 dX8_stepOn_81 ⟨_, _, _, rfl, rfl, rfl⟩ (w_fit.mono (by omega) hE) (m_byteAt (d := d) (k := i) (by omega) hT) rfl (Nat.le_of_ble_eq_true rfl) ?_
    rintro _ _ _ _ ⟨rfl, rfl, rfl, rfl⟩
    rw [if_neg (by omega)]
    refine V_si 84 msX8_154 dX8_stepOn_84 (w_fit.mono (by omega) hE) (m_isLetter (d := d) (c := mI) (by omega)) rfl (Nat.le_of_ble_eq_true rfl) ?_
    rintro _ _ _ _ ⟨rfl, rfl, rfl, rfl⟩
    rw [if_neg (by decide)]
    refine V_zN_eq 87 103 dX8_stepOn_87 (by decide) (by omega) (fun c => ?_) (fun c => ?_)
    · exact hk I FrS.rf h19 rfl
    · exact absurd rfl c
  | succ k ih =>
    intro i I hi h19 hT hk
    have hn := hT.1
    obtain ⟨t1, t2⟩ := hT.2.2 i (by omega)
    refine V_aload_n 76 0 dX8_stepOn_76 rfl ?_
    refine V_aload_n 77 0 dX8_stepOn_77 rfl ?_
    refine V_getI 78 flX8_141 dX8_stepOn_78 rfl ?_
    rw [h19]
    refine V_vi 81 mvX8_144 dX8_stepOn_81 ⟨_, _, _, rfl, rfl, rfl⟩ (w_fit.mono (by omega) hE) (m_byteAt (d := d) (k := i) (by omega) hT) rfl (Nat.le_of_ble_eq_true rfl) ?_
    rintro _ _ _ _ ⟨rfl, rfl, rfl, rfl⟩
    rw [if_pos (by omega)]
    refine V_si 84 msX8_154 dX8_stepOn_84 (w_fit.mono (by omega) hE) (m_isLetter (d := d) (c := T i) (by omega)) rfl (Nat.le_of_ble_eq_true rfl) ?_
    rintro _ _ _ _ ⟨rfl, rfl, rfl, rfl⟩
    cases h : x_L (T i)
    · rw [if_neg (by decide)]
      refine V_zN_eq 87 103 dX8_stepOn_87 (by decide) (by omega) (fun c => ?_) (fun c => ?_)
      · refine hk I FrS.rf ?_ rfl
        rw [h19]
        show _ = if x_L (T i) then _ else _
        rw [if_neg (by rw [h]; decide)]
      · exact absurd rfl c
    · rw [if_pos rfl]
      refine V_zN_eq 87 103 dX8_stepOn_87 (by decide) (by omega) (fun c => ?_) (fun c => ?_)
      · exact absurd c (by decide)
      refine V_aload_n 90 0 dX8_stepOn_90 rfl ?_
      refine V_dup 91 dX8_stepOn_91 rfl ?_
      refine V_getI 92 flX8_141 dX8_stepOn_92 rfl ?_
      rw [h19]
      refine V_cst 95 1 dX8_stepOn_95 rfl ?_
      refine V_add 96 dX8_stepOn_96 ?_
      refine V_putI 97 flX8_141 ft_8_19 dX8_stepOn_97 rfl ?_
      refine V_goto 100 76 dX8_stepOn_100 (by decide) ?_
      have hf : FrS I (w_put I 63 19 (i + 1)) := FrS.rf.put (Or.inl rfl)
      refine ih (i + 1) _ (by omega) (w_put_same _ _ _ _) (hT.fr hf) (fun I' a b e => hk I' (hf.trans a) ?_ ?_)
      · rw [b]
        show _ = if x_L (T i) then _ else _
        rw [if_pos h]
      · rw [e, w_put_other _ (Or.inr (by decide))]
theorem so_de {c0 s : Nat} (hE : w_fit d E) : ∀ (k i : Nat) (I : w_I), i + k = n → s ≤ i → I 63 19 = i → I 63 22 = min 10000 (x_dec T s (i - s)) → MTX T n I → (∀ I', FrS I I' → I' 63 19 = x_run x_D T k i → I' 63 22 = min 10000 (x_dec T s (x_run x_D T k i - s)) → I' 63 23 = I 63 23 → V mX8_stepOn E Ω 0 0 (SH u v) I' L 179 [(0, .ref (Ω.1 + 63)), (1, .int (nI c0))] []) → V mX8_stepOn E Ω 0 0 (SH u v) I L 123 [(0, .ref (Ω.1 + 63)), (1, .int (nI c0))] [] := by
  have hmI : mI = 4294967295 := rfl
  intro k
  induction k with
  | zero =>
    intro i I hi hs h19 h22 hT hk
    have hn := hT.1
    refine V_aload_n 123 0 dX8_stepOn_123 rfl ?_
    refine V_aload_n 124 0 dX8_stepOn_124 rfl ?_
    refine V_getI 125 flX8_141 dX8_stepOn_125 rfl ?_
    rw [h19]
    refine V_vi 128 mvX8_144 dX8_stepOn_128 ⟨_, _, _, rfl, rfl, rfl⟩ (w_fit.mono (by omega) hE) (m_byteAt (d := d) (k := i) (by omega) hT) rfl (Nat.le_of_ble_eq_true rfl) ?_
    rintro _ _ _ _ ⟨rfl, rfl, rfl, rfl⟩
    rw [if_neg (by omega)]
    refine V_si 131 msX8_158 dX8_stepOn_131 (w_fit.mono (by omega) hE) (m_isDigit (d := d) (c := mI) (by omega)) rfl (Nat.le_of_ble_eq_true rfl) ?_
    rintro _ _ _ _ ⟨rfl, rfl, rfl, rfl⟩
    rw [if_neg (by decide)]
    refine V_zN_eq 134 179 dX8_stepOn_134 (by decide) (by omega) (fun c => ?_) (fun c => ?_)
    · exact hk I FrS.rf h19 h22 rfl
    · exact absurd rfl c
  | succ k ih =>
    intro i I hi hs h19 h22 hT hk
    have hn := hT.1
    obtain ⟨t1, t2⟩ := hT.2.2 i (by omega)
    refine V_aload_n 123 0 dX8_stepOn_123 rfl ?_
    refine V_aload_n 124 0 dX8_stepOn_124 rfl ?_
    refine V_getI 125 flX8_141 dX8_stepOn_125 rfl ?_
    rw [h19]
    refine V_vi 128 mvX8_144 dX8_stepOn_128 ⟨_, _, _, rfl, rfl, rfl⟩ (w_fit.mono (by omega) hE) (m_byteAt (d := d) (k := i) (by omega) hT) rfl (Nat.le_of_ble_eq_true rfl) ?_
    rintro _ _ _ _ ⟨rfl, rfl, rfl, rfl⟩
    rw [if_pos (by omega)]
    refine V_si 131 msX8_158 dX8_stepOn_131 (w_fit.mono (by omega) hE) (m_isDigit (d := d) (c := T i) (by omega)) rfl (Nat.le_of_ble_eq_true rfl) ?_
    rintro _ _ _ _ ⟨rfl, rfl, rfl, rfl⟩
    cases h : x_D (T i)
    · rw [if_neg (by decide)]
      have er : x_run x_D T (k + 1) i = i := by
        show (if x_D (T i) then _ else _) = _
        rw [if_neg (by rw [h]; decide)]
      rw [er] at hk
      refine V_zN_eq 134 179 dX8_stepOn_134 (by decide) (by omega) (fun c => ?_) (fun c => ?_)
      · exact hk I FrS.rf h19 h22 rfl
      · exact absurd rfl c
    · rw [if_pos rfl]
      have h48 : 48 ≤ T i ∧ T i ≤ 57 := by unfold x_D at h; simpa using h
      have er : x_run x_D T (k + 1) i = x_run x_D T k (i + 1) := by
        show (if x_D (T i) then _ else _) = _
        rw [if_pos h]
      rw [er] at hk
      have h22b : min 10000 (x_dec T s (i - s)) ≤ 10000 := Nat.min_le_left _ _
      refine V_zN_eq 134 179 dX8_stepOn_134 (by decide) (by omega) (fun c => ?_) (fun c => ?_)
      · exact absurd c (by decide)
      refine V_aload_n 137 0 dX8_stepOn_137 rfl ?_
      refine V_sip 138 10000 dX8_stepOn_138 rfl ?_
      refine V_bip 141 10 dX8_stepOn_141 rfl ?_
      refine V_aload_n 143 0 dX8_stepOn_143 rfl ?_
      refine V_getI 144 flX8_161 dX8_stepOn_144 rfl ?_
      rw [h22]
      refine V_mul 147 dX8_stepOn_147 ?_
      refine V_aload_n 148 0 dX8_stepOn_148 rfl ?_
      refine V_aload_n 149 0 dX8_stepOn_149 rfl ?_
      refine V_getI 150 flX8_141 dX8_stepOn_150 rfl ?_
      rw [h19]
      refine V_vi 153 mvX8_144 dX8_stepOn_153 ⟨_, _, _, rfl, rfl, rfl⟩ (w_fit.mono (by omega) hE) (m_byteAt (d := d) (k := i) (by omega) hT) rfl (Nat.le_of_ble_eq_true rfl) ?_
      rintro _ _ _ _ ⟨rfl, rfl, rfl, rfl⟩
      rw [if_pos (by omega)]
      refine V_add 156 dX8_stepOn_156 ?_
      refine V_bip 157 48 dX8_stepOn_157 rfl ?_
      refine V_sub1 159 dX8_stepOn_159 (by omega) ?_
      refine V_mini 160 (by omega) (by omega) mnX8_164 dX8_stepOn_160 (w_fit.mono (by omega) hE) (Nat.le_of_ble_eq_true rfl) ?_
      refine V_putI 163 flX8_161 ft_8_22 dX8_stepOn_163 rfl ?_
      refine V_aload_n 166 0 dX8_stepOn_166 rfl ?_
      refine V_dup 167 dX8_stepOn_167 rfl ?_
      refine V_getI 168 flX8_141 dX8_stepOn_168 rfl ?_
      rw [w_put_other _ (Or.inr (by decide)), h19]
      refine V_cst 171 1 dX8_stepOn_171 rfl ?_
      refine V_add 172 dX8_stepOn_172 ?_
      refine V_putI 173 flX8_141 ft_8_19 dX8_stepOn_173 rfl ?_
      refine V_goto 176 123 dX8_stepOn_176 (by decide) ?_
      have ed : x_dec T s (i + 1 - s) = x_dec T s (i - s) * 10 + (T i - 48) := by
        rw [show i + 1 - s = (i - s) + 1 by omega]
        show x_dec T s (i - s) * 10 + (T (s + (i - s)) - 48) = _
        rw [show s + (i - s) = i by omega]
      refine ih (i + 1) _ (by omega) (by omega) (w_put_same _ _ _ _) ?_ (hT.fr ((FrS.rf.put (Or.inr ⟨by decide, by decide⟩)).put (Or.inl rfl))) (fun I' a b f g => hk I' (((FrS.rf.put (Or.inr ⟨by decide, by decide⟩)).put (Or.inl rfl)).trans a) b f ?_)
      · rw [w_put_other _ (Or.inr (by decide)), w_put_same, ed]
        omega
      · rw [g, w_put_other _ (Or.inr (by decide)), w_put_other _ (Or.inr (by decide))]
end
