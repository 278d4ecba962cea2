section
variable {Ω : w_O} {d u v : Nat} {L : w_L} {E : w_E} {T : Nat → Nat} {n : Nat}
theorem m_stepOn {I : w_I} {e : Nat} (h19 : I 63 19 = e) (he : e ≤ n) (hT : MTX T n I) : FnV Ω (d + 1) mX8_stepOn [.ref (Ω.1 + 63)] (SH u v) I L (fun S' I' L' => S' = SH u v ∧ L = L' ∧ MRT T n e I' ∧ FrS I I') := by
  have hn := hT.1
  have hmI : mI = 4294967295 := rfl
  have hst : e ≤ x_st T n e ∧ x_st T n e ≤ e + (n - e) := x_run_ge _ _ _ _
  have hle : x_st T n e ≤ x_le T n e ∧ x_le T n e ≤ x_st T n e + (n - x_st T n e) := x_run_ge _ _ _ _
  have hde : x_st T n e ≤ x_de T n e ∧ x_de T n e ≤ x_st T n e + (n - x_st T n e) := x_run_ge _ _ _ _
  refine FnR_of1 okX8_stepOn (Nat.le_of_ble_eq_true rfl) fun l z hE => ?_
  show V _ _ _ _ _ _ _ _ 0 [(0, _)] []
  refine so_sp (n := n) (T := T) hE (n - e) e I (by omega) h19 hT (fun I1 g1 g2 => ?_)
  have g2 : I1 63 19 = x_st T n e := g2
  have hT1 := hT.fr g1
  refine V_aload_n 39 0 dX8_stepOn_39 rfl ?_
  refine V_aload_n 40 0 dX8_stepOn_40 rfl ?_
  refine V_getI 41 flX8_141 dX8_stepOn_41 rfl ?_
  rw [g2]
  refine V_putI 44 flX8_148 ft_8_23 dX8_stepOn_44 rfl ?_
  refine V_aload_n 47 0 dX8_stepOn_47 rfl ?_
  refine V_aload_n 48 0 dX8_stepOn_48 rfl ?_
  refine V_getI 49 flX8_141 dX8_stepOn_49 rfl ?_
  rw [w_put_other _ (Or.inr (by decide)), g2]
  have hf1 : FrS I (w_put I1 63 23 (x_st T n e)) := g1.put (Or.inr ⟨by decide, by decide⟩)
  have hT2 := hT.fr hf1
  have a19 : w_put I1 63 23 (x_st T n e) 63 19 = x_st T n e := by rw [w_put_other _ (Or.inr (by decide))]; exact g2
  have a23 : w_put I1 63 23 (x_st T n e) 63 23 = x_st T n e := w_put_same _ _ _ _
  generalize w_put I1 63 23 (x_st T n e) = I2 at hf1 hT2 a19 a23 ⊢
  refine V_vi 52 mvX8_144 dX8_stepOn_52 ⟨_, _, _, rfl, rfl, rfl⟩ (w_fit.mono (by omega) hE) (m_byteAt (d := d) (k := x_st T n e) (by omega) hT2) rfl (Nat.le_of_ble_eq_true rfl) ?_
  rintro _ _ _ _ ⟨rfl, rfl, rfl, rfl⟩
  by_cases hs : x_st T n e < n
  rotate_left
  · rw [if_neg hs]
    refine V_istore_n 55 [(0, _), (1, _)] dX8_stepOn_55 (by decide) rfl ?_
    refine V_iload_n 56 1 dX8_stepOn_56 rfl ?_
    refine V_cst 57 4294967295 dX8_stepOn_57 rfl ?_
    refine V_cN_ne 58 69 dX8_stepOn_58 (by decide) (by omega) (by omega) (fun c => ?_) (fun c => ?_)
    · exact absurd rfl c
    refine V_aload_n 61 0 dX8_stepOn_61 rfl ?_
    refine V_cst 62 0 dX8_stepOn_62 rfl ?_
    refine V_putI 63 flX8_151 ft_8_21 dX8_stepOn_63 rfl ?_
    refine V_goto 66 212 dX8_stepOn_66 (by decide) ?_
    refine V_aload_n 212 0 dX8_stepOn_212 rfl ?_
    refine V_aload_n 213 0 dX8_stepOn_213 rfl ?_
    refine V_getI 214 flX8_141 dX8_stepOn_214 rfl ?_
    rw [w_put_other _ (Or.inr (by decide)), a19]
    refine V_putI 217 flX8_170 ft_8_24 dX8_stepOn_217 rfl ?_
    have ex : x_en T n e = x_st T n e := by unfold x_en; rw [if_neg (by omega), if_neg (by omega), if_neg (by omega)]
    have ek : x_kd T n e = 0 := by unfold x_kd; rw [if_neg (by omega), if_neg (by omega), if_neg (by omega)]
    refine V_ret 220 dX8_stepOn_220 rfl ⟨rfl, rfl, ⟨?_, ?_, ?_, ?_, fun w => ?_⟩, (hf1.put (Or.inr ⟨by decide, by decide⟩)).put (Or.inr ⟨by decide, by decide⟩)⟩
    · rw [w_put_other _ (Or.inr (by decide)), w_put_same, ek]
    · rw [w_put_other _ (Or.inr (by decide)), w_put_other _ (Or.inr (by decide)), a23]
    · rw [w_put_same, ex]
    · rw [w_put_other _ (Or.inr (by decide)), w_put_other _ (Or.inr (by decide)), a19, ex]
    · rw [ek] at w; exact absurd w (by decide)
  obtain ⟨t1, t2⟩ := hT.2.2 (x_st T n e) hs
  rw [if_pos hs]
  refine V_istore_n 55 [(0, _), (1, _)] dX8_stepOn_55 (by decide) rfl ?_
  refine V_iload_n 56 1 dX8_stepOn_56 rfl ?_
  refine V_cst 57 4294967295 dX8_stepOn_57 rfl ?_
  refine V_cN_ne 58 69 dX8_stepOn_58 (by decide) (by omega) (by omega) (fun c => ?_) (fun c => ?_)
  rotate_left
  · omega
  refine V_iload_n 69 1 dX8_stepOn_69 rfl ?_
  refine V_si 70 msX8_154 dX8_stepOn_70 (w_fit.mono (by omega) hE) (m_isLetter (d := d) (c := T (x_st T n e)) (by omega)) rfl (Nat.le_of_ble_eq_true rfl) ?_
  rintro _ _ _ _ ⟨rfl, rfl, rfl, rfl⟩
  have run1 : ∀ (f : Nat → Bool), x_run f T (n - x_st T n e) (x_st T n e) = if f (T (x_st T n e)) then x_run f T (n - x_st T n e - 1) (x_st T n e + 1) else x_st T n e := by
    intro f
    rw [show n - x_st T n e = (n - x_st T n e - 1) + 1 by omega]
    rfl
  cases hL : x_L (T (x_st T n e))
  rotate_left
  · have hgt : x_st T n e < x_le T n e := by
      have h1 := x_run_ge x_L T (n - x_st T n e - 1) (x_st T n e + 1)
      have h2 : x_le T n e = x_run x_L T (n - x_st T n e - 1) (x_st T n e + 1) := by unfold x_le; rw [run1, if_pos hL]
      omega
    have ex : x_en T n e = x_le T n e := by unfold x_en; rw [if_pos hgt]
    have ek : x_kd T n e = 1 := by unfold x_kd; rw [if_pos hgt]
    rw [if_pos rfl]
    refine V_zN_eq 73 111 dX8_stepOn_73 (by decide) (by omega) (fun c1 => ?_) (fun c1 => ?_)
    · exact absurd c1 (by decide)
    refine so_le (n := n) (T := T) hE (n - x_st T n e) (x_st T n e) I2 (by omega) a19 hT2 (fun I3 k1 k2 k3 => ?_)
    have k2 : I3 63 19 = x_le T n e := k2
    refine V_aload_n 103 0 dX8_stepOn_103 rfl ?_
    refine V_cst 104 1 dX8_stepOn_104 rfl ?_
    refine V_putI 105 flX8_151 ft_8_21 dX8_stepOn_105 rfl ?_
    refine V_goto 108 212 dX8_stepOn_108 (by decide) ?_
    refine V_aload_n 212 0 dX8_stepOn_212 rfl ?_
    refine V_aload_n 213 0 dX8_stepOn_213 rfl ?_
    refine V_getI 214 flX8_141 dX8_stepOn_214 rfl ?_
    rw [w_put_other _ (Or.inr (by decide)), k2]
    refine V_putI 217 flX8_170 ft_8_24 dX8_stepOn_217 rfl ?_
    refine V_ret 220 dX8_stepOn_220 rfl ⟨rfl, rfl, ⟨?_, ?_, ?_, ?_, fun w => ?_⟩, ((hf1.trans k1).put (Or.inr ⟨by decide, by decide⟩)).put (Or.inr ⟨by decide, by decide⟩)⟩
    · rw [w_put_other _ (Or.inr (by decide)), w_put_same, ek]
    · rw [w_put_other _ (Or.inr (by decide)), w_put_other _ (Or.inr (by decide)), k3, a23]
    · rw [w_put_same, ex]
    · rw [w_put_other _ (Or.inr (by decide)), w_put_other _ (Or.inr (by decide)), k2, ex]
    · rw [ek] at w; exact absurd w (by decide)
  have ele : x_le T n e = x_st T n e := by unfold x_le; rw [run1, if_neg (by rw [hL]; decide)]
  rw [if_neg (by decide)]
  refine V_zN_eq 73 111 dX8_stepOn_73 (by decide) (by omega) (fun c1 => ?_) (fun c1 => ?_)
  rotate_left
  · exact absurd rfl c1
  refine V_iload_n 111 1 dX8_stepOn_111 rfl ?_
  refine V_si 112 msX8_158 dX8_stepOn_112 (w_fit.mono (by omega) hE) (m_isDigit (d := d) (c := T (x_st T n e)) (by omega)) rfl (Nat.le_of_ble_eq_true rfl) ?_
  rintro _ _ _ _ ⟨rfl, rfl, rfl, rfl⟩
  cases hD : x_D (T (x_st T n e))
  rotate_left
  · have hgt : x_st T n e < x_de T n e := by
      have h1 := x_run_ge x_D T (n - x_st T n e - 1) (x_st T n e + 1)
      have h2 : x_de T n e = x_run x_D T (n - x_st T n e - 1) (x_st T n e + 1) := by unfold x_de; rw [run1, if_pos hD]
      omega
    have ex : x_en T n e = x_de T n e := by unfold x_en; rw [if_neg (by omega), if_pos hgt]
    have ek : x_kd T n e = 2 := by unfold x_kd; rw [if_neg (by omega), if_pos hgt]
    rw [if_pos rfl]
    refine V_zN_eq 115 187 dX8_stepOn_115 (by decide) (by omega) (fun c2 => ?_) (fun c2 => ?_)
    · exact absurd c2 (by decide)
    refine V_aload_n 118 0 dX8_stepOn_118 rfl ?_
    refine V_cst 119 0 dX8_stepOn_119 rfl ?_
    refine V_putI 120 flX8_161 ft_8_22 dX8_stepOn_120 rfl ?_
    have hf2 : FrS I2 (w_put I2 63 22 0) := FrS.rf.put (Or.inr ⟨by decide, by decide⟩)
    refine so_de (n := n) (T := T) (s := x_st T n e) hE (n - x_st T n e) (x_st T n e) _ (by omega) (Nat.le_refl _) ?_ ?_ (hT2.fr hf2) (fun I3 k1 k2 k4 k3 => ?_)
    · rw [w_put_other _ (Or.inr (by decide))]; exact a19
    · rw [w_put_same, Nat.sub_self]; rfl
    have k2 : I3 63 19 = x_de T n e := k2
    have k4 : I3 63 22 = min 10000 (x_dec T (x_st T n e) (x_de T n e - x_st T n e)) := k4
    rw [w_put_other _ (Or.inr (by decide)), a23] at k3
    refine V_aload_n 179 0 dX8_stepOn_179 rfl ?_
    refine V_cst 180 2 dX8_stepOn_180 rfl ?_
    refine V_putI 181 flX8_151 ft_8_21 dX8_stepOn_181 rfl ?_
    refine V_goto 184 212 dX8_stepOn_184 (by decide) ?_
    refine V_aload_n 212 0 dX8_stepOn_212 rfl ?_
    refine V_aload_n 213 0 dX8_stepOn_213 rfl ?_
    refine V_getI 214 flX8_141 dX8_stepOn_214 rfl ?_
    rw [w_put_other _ (Or.inr (by decide)), k2]
    refine V_putI 217 flX8_170 ft_8_24 dX8_stepOn_217 rfl ?_
    refine V_ret 220 dX8_stepOn_220 rfl ⟨rfl, rfl, ⟨?_, ?_, ?_, ?_, fun w w2 => ?_⟩, (((hf1.trans hf2).trans k1).put (Or.inr ⟨by decide, by decide⟩)).put (Or.inr ⟨by decide, by decide⟩)⟩
    · rw [w_put_other _ (Or.inr (by decide)), w_put_same, ek]
    · rw [w_put_other _ (Or.inr (by decide)), w_put_other _ (Or.inr (by decide)), k3]
    · rw [w_put_same, ex]
    · rw [w_put_other _ (Or.inr (by decide)), w_put_other _ (Or.inr (by decide)), k2, ex]
    · rw [w_put_other _ (Or.inr (by decide)), w_put_other _ (Or.inr (by decide)), k4]
      rw [ex] at w2
      have ev : x_va T n e = x_dec T (x_st T n e) (x_de T n e - x_st T n e) := by
        unfold x_va x_vl
        rw [if_neg (by omega), if_pos w2]
      rw [ev]
      apply Nat.min_eq_right
      have hdig : ∀ k, k ≤ x_de T n e - x_st T n e → x_dec T (x_st T n e) k < 10 ^ k := by
        have hall : ∀ (m i j : Nat), i ≤ j → j < x_run x_D T m i → x_D (T j) = true := by
          intro m
          induction m with
          | zero => intro i j a b; exact absurd b (by show ¬ j < i; omega)
          | succ m ih =>
            intro i j a b
            have b : j < if x_D (T i) then x_run x_D T m (i + 1) else i := b
            cases h : x_D (T i)
            · rw [h, if_neg (by decide)] at b; omega
            · rw [h, if_pos rfl] at b
              by_cases e2 : j = i
              · rw [e2]; exact h
              · exact ih (i + 1) j (by omega) b
        intro k
        induction k with
        | zero => intro _; exact Nat.one_pos
        | succ k ih =>
          intro hk
          have h1 := ih (by omega)
          have h2 := hall (n - x_st T n e) (x_st T n e) (x_st T n e + k) (by omega) (by show x_st T n e + k < x_de T n e; omega)
          have h3 : T (x_st T n e + k) ≤ 57 := by
            unfold x_D at h2
            simp at h2
            exact h2.2
          show x_dec T (x_st T n e) k * 10 + (T (x_st T n e + k) - 48) < 10 ^ (k + 1)
          rw [Nat.pow_succ]
          omega
      have h1 := hdig _ (Nat.le_refl _)
      have h2 : 10 ^ (x_de T n e - x_st T n e) ≤ 10 ^ 3 := Nat.pow_le_pow_right (by decide) w2
      omega
  have ede : x_de T n e = x_st T n e := by unfold x_de; rw [run1, if_neg (by rw [hD]; decide)]
  rw [if_neg (by decide)]
  refine V_zN_eq 115 187 dX8_stepOn_115 (by decide) (by omega) (fun c2 => ?_) (fun c2 => ?_)
  rotate_left
  · exact absurd rfl c2
  refine V_aload_n 187 0 dX8_stepOn_187 rfl ?_
  refine V_dup 188 dX8_stepOn_188 rfl ?_
  refine V_getI 189 flX8_141 dX8_stepOn_189 rfl ?_
  rw [a19]
  refine V_cst 192 1 dX8_stepOn_192 rfl ?_
  refine V_add 193 dX8_stepOn_193 ?_
  refine V_putI 194 flX8_141 ft_8_19 dX8_stepOn_194 rfl ?_
  have ex : x_en T n e = x_st T n e + 1 := by unfold x_en; rw [if_neg (by omega), if_neg (by omega), if_pos hs]
  have ek : x_kd T n e = if T (x_st T n e) = 59 then 3 else 4 := by unfold x_kd; rw [if_neg (by omega), if_neg (by omega), if_pos hs]
  have k209 : ∀ q, q = x_kd T n e → V mX8_stepOn (w_Er l (d + 1) 0 0 Ω (w_pv (fun S' I' L' => S' = SH u v ∧ L = L' ∧ MRT T n e I' ∧ FrS I I')) z) Ω 0 0 (SH u v) (w_put I2 63 19 (x_st T n e + 1)) L 209 [(0, .ref (Ω.1 + 63)), (1, .int (nI (T (x_st T n e))))] [.int (nI q), .ref (Ω.1 + 63)] := by
    intro q hq
    refine V_putI 209 flX8_151 ft_8_21 dX8_stepOn_209 rfl ?_
    refine V_aload_n 212 0 dX8_stepOn_212 rfl ?_
    refine V_aload_n 213 0 dX8_stepOn_213 rfl ?_
    refine V_getI 214 flX8_141 dX8_stepOn_214 rfl ?_
    rw [w_put_other _ (Or.inr (by decide)), w_put_same]
    refine V_putI 217 flX8_170 ft_8_24 dX8_stepOn_217 rfl ?_
    refine V_ret 220 dX8_stepOn_220 rfl ⟨rfl, rfl, ⟨?_, ?_, ?_, ?_, fun w => ?_⟩, ((hf1.put (Or.inl rfl)).put (Or.inr ⟨by decide, by decide⟩)).put (Or.inr ⟨by decide, by decide⟩)⟩
    · rw [w_put_other _ (Or.inr (by decide)), w_put_same, hq]
    · rw [w_put_other _ (Or.inr (by decide)), w_put_other _ (Or.inr (by decide)), w_put_other _ (Or.inr (by decide)), a23]
    · rw [w_put_same, ex]
    · rw [w_put_other _ (Or.inr (by decide)), w_put_other _ (Or.inr (by decide)), w_put_same, ex]
    · rw [ek] at w; split at w <;> exact absurd w (by decide)
  refine V_aload_n 197 0 dX8_stepOn_197 rfl ?_
  refine V_iload_n 198 1 dX8_stepOn_198 rfl ?_
  refine V_bip 199 59 dX8_stepOn_199 rfl ?_
  refine V_cN_ne 201 208 dX8_stepOn_201 (by decide) (by omega) (by omega) (fun c3 => ?_) (fun c3 => ?_)
  · refine V_cst 208 4 dX8_stepOn_208 rfl ?_
    exact k209 4 (by rw [ek, if_neg c3])
  · refine V_cst 204 3 dX8_stepOn_204 rfl ?_
    refine V_goto 205 209 dX8_stepOn_205 (by decide) ?_
    exact k209 3 (by rw [ek, if_pos c3])
/-- only the reader's numbers have changed -/
def FrX (I I' : w_I) : Prop := (∀ i, i ≠ 63 → I' i = I i) ∧ ∀ j, j < 19 ∨ j = 20 ∨ 26 < j → I' 63 j = I 63 j
theorem FrX.rf {I : w_I} : FrX I I := ⟨fun _ _ => rfl, fun _ _ => rfl⟩
theorem FrX.trans {I I' I'' : w_I} (h : FrX I I') (h' : FrX I' I'') : FrX I I'' := ⟨fun i hi => (h'.1 i hi).trans (h.1 i hi), fun j h1 => (h'.2 j h1).trans (h.2 j h1)⟩
theorem FrS.x {I I' : w_I} (h : FrS I I') : FrX I I' := ⟨h.1, fun j hj => h.2 j (by omega) (by omega)⟩
theorem MTX.frx {I I' : w_I} (h : MTX T n I) (hf : FrX I I') : MTX T n I' := by
  unfold MTX
  rw [hf.1 79 (by decide), hf.2 20 (by decide)]
  exact h
theorem m_wrong {I : w_I} {f : Nat} (h0 : I 63 25 = 0) : FnV Ω d mX8_wrong [.ref (Ω.1 + 63), .int (nI f)] (SH u v) I L (fun S' I' L' => S' = SH u v ∧ L = L' ∧ I' = w_put (w_put I 63 25 f) 63 26 (I 63 23)) := by
  refine FnR_of okX8_wrong (Nat.le_of_ble_eq_true rfl) fun l z => ?_
  show V _ _ _ _ _ _ _ _ 0 [(0, _), (1, _)] []
  refine V_aload_n 0 0 dX8_wrong_0 rfl ?_
  refine V_getI 1 flX8_173 dX8_wrong_1 rfl ?_
  rw [h0]
  refine V_zN_eq 4 8 dX8_wrong_4 (by decide) (by omega) (fun c => ?_) (fun c => ?_)
  rotate_left
  · exact absurd rfl c
  refine V_aload_n 8 0 dX8_wrong_8 rfl ?_
  refine V_iload_n 9 1 dX8_wrong_9 rfl ?_
  refine V_putI 10 flX8_173 ft_8_25 dX8_wrong_10 rfl ?_
  refine V_aload_n 13 0 dX8_wrong_13 rfl ?_
  refine V_aload_n 14 0 dX8_wrong_14 rfl ?_
  refine V_getI 15 flX8_148 dX8_wrong_15 rfl ?_
  rw [w_put_other _ (Or.inr (by decide))]
  refine V_putI 18 flX8_176 ft_8_26 dX8_wrong_18 rfl ?_
  exact V_ret 21 dX8_wrong_21 rfl ⟨rfl, rfl, rfl⟩
end
