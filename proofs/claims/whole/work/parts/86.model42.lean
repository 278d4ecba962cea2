def r_i (i h s a : Nat) : Nat := ((i * 64 + h) * 64 + s) * 2 + a
/-- what a doing costs from a meeting on, by what it costs from the next on -/
def rD (P : w_R) (K si : Nat) (w : Nat → Nat) (i b h s a : Nat) (B : Nat → Nat → Nat → Nat) : Nat := if b = 0 then B h (r_s P (i + 1) s) a else if (s ||| si).testBit (r_w P i b) = false ∧ (K ||| h).testBit (r_w P i b) = true then (if B (r_h P i b h) (r_s P (i + 1) (s ||| 2 ^ r_w P i b)) (r_a P i b h a) = NVR then NVR else B (r_h P i b h) (r_s P (i + 1) (s ||| 2 ^ r_w P i b)) (r_a P i b h a) + w (r_w P i b)) else NVR
/-- the least from the n-th meeting before the end on -/
def rB (P : w_R) (K si : Nat) (w f : Nat → Nat) : Nat → Nat → Nat → Nat → Nat
  | 0, h, _, a => if a = 1 then f h else NVR
  | n + 1, h, s, a => min (rD P K si w (P 2 0 - (n + 1)) 0 h s a (rB P K si w f n)) (min (rD P K si w (P 2 0 - (n + 1)) 1 h s a (rB P K si w f n)) (rD P K si w (P 2 0 - (n + 1)) 2 h s a (rB P K si w f n)))
section
variable {P : w_R} {K si : Nat} {w f : Nat → Nat}
theorem rD_b (hP : s_POK P) (hw : ∀ x, x < P 0 0 → w x ≤ 99) {i b h s a m : Nat} {B : Nat → Nat → Nat → Nat} (hi : i < P 2 0) (hh : h < 2 ^ P 0 0) (hs : s < 2 ^ P 0 0) (ha : a < 2) (hB : ∀ h s a, h < 2 ^ P 0 0 → s < 2 ^ P 0 0 → a < 2 → B h s a = NVR ∨ B h s a ≤ m) : rD P K si w i b h s a B = NVR ∨ rD P K si w i b h s a B ≤ m + 99 := by
  obtain ⟨w1, w2, w3⟩ := r_wo hP hi b
  unfold rD
  split
  · rcases hB h (r_s P (i + 1) s) a hh (r_s_le hs) ha with e | e
    · exact Or.inl e
    · exact Or.inr (by omega)
  · split
    · split
      · exact Or.inl rfl
      · rename_i q
        right
        have hra : r_a P i b h a < 2 := by unfold r_a; split <;> decide
        rcases hB (r_h P i b h) (r_s P (i + 1) (s ||| 2 ^ r_w P i b)) (r_a P i b h a) (Nat.or_lt_two_pow (Nat.or_lt_two_pow hh (p_lt w1)) (p_lt w2)) (r_s_le (Nat.or_lt_two_pow hs (p_lt w1))) hra with e | e
        · exact absurd e q
        · have := hw _ w1
          omega
    · exact Or.inl rfl
theorem rB_b (hP : s_POK P) (hw : ∀ x, x < P 0 0 → w x ≤ 99) {m : Nat} (hm : m ≤ 500000) (hf : ∀ h, h < 2 ^ P 0 0 → f h = NVR ∨ f h ≤ m) : ∀ n, n ≤ P 2 0 → ∀ h s a, h < 2 ^ P 0 0 → s < 2 ^ P 0 0 → a < 2 → rB P K si w f n h s a = NVR ∨ rB P K si w f n h s a ≤ m + 99 * n := by
  have h12 := hP.2.2.1
  have hNV : NVR = 1000000000 := rfl
  intro n
  induction n with
  | zero =>
    intro _ h s a hh hs ha
    show (if a = 1 then f h else NVR) = NVR ∨ (if a = 1 then f h else NVR) ≤ m + 99 * 0
    split
    · exact hf h hh
    · exact Or.inl rfl
  | succ n ih =>
    intro hn h s a hh hs ha
    have hB := ih (by omega)
    have d0 := rD_b (K := K) (si := si) hP hw (i := P 2 0 - (n + 1)) (b := 0) (by omega) hh hs ha hB
    have d1 := rD_b (K := K) (si := si) hP hw (i := P 2 0 - (n + 1)) (b := 1) (by omega) hh hs ha hB
    have d2 := rD_b (K := K) (si := si) hP hw (i := P 2 0 - (n + 1)) (b := 2) (by omega) hh hs ha hB
    show min _ (min _ _) = NVR ∨ min _ (min _ _) ≤ m + 99 * (n + 1)
    generalize rD P K si w (P 2 0 - (n + 1)) 0 h s a (rB P K si w f n) = x0 at d0 ⊢
    generalize rD P K si w (P 2 0 - (n + 1)) 1 h s a (rB P K si w f n) = x1 at d1 ⊢
    generalize rD P K si w (P 2 0 - (n + 1)) 2 h s a (rB P K si w f n) = x2 at d2 ⊢
    rw [hNV] at d0 d1 d2 ⊢
    omega
end
section
variable {Ω : w_O} {d u v : Nat} {L : w_L} {E : w_E} {P : w_R}
theorem m_byDoing {J : w_I} {K si ks i b h s a m : Nat} {B : Nat → Nat → Nat → Nat} (hP : s_POK P) (hK : KF P si ks J) (hks : ks = 0 ∨ ks = 1) (h42 : J 63 42 = K) (hK64 : K < 64) (hsi : si < 64) (hi : i < P 2 0) (hb : b < 3) (hh : h < 2 ^ P 0 0) (hs : s < 2 ^ P 0 0) (ha : a < 2) (hm : m ≤ 600000) (hB : ∀ h s a, h < 2 ^ P 0 0 → s < 2 ^ P 0 0 → a < 2 → B h s a = NVR ∨ B h s a ≤ m) (h95 : ∀ h s a, h < 2 ^ P 0 0 → s < 2 ^ P 0 0 → a < 2 → J 92 (r_i (i + 1) h s a) = B h s a) : FnI Ω (d + 1) mX8_byDoing [.ref (Ω.1 + 63), .int (nI i), .int (nI h), .int (nI s), .int (nI a), .int (nI b)] (SH u v) J L (fun r S' I' L' => r = nI (rD P K si (r_p P ks) i b h s a B) ∧ S' = SH u v ∧ J = I' ∧ L = L') := by
  have h6 := hP.1.2
  have h12 := hP.2.2.1
  have hNV : NVR = 1000000000 := rfl
  have h64 : 2 ^ P 0 0 ≤ 64 := Nat.pow_le_pow_right (n := 2) (j := 6) (by decide) h6
  have g1 := r_m_lt hP hi
  obtain ⟨m3, m4, m5⟩ := hK.1.2.2.2.2.1 _ g1
  obtain ⟨q3, q4, -⟩ := hP.2.2.2.1 _ g1
  obtain ⟨w1, w2, w3⟩ := r_wo hP hi b
  have hri : ∀ h s a, h < 2 ^ P 0 0 → s < 2 ^ P 0 0 → a < 2 → r_i (i + 1) h s a < 106496 := fun h s a q1 q2 q3 => by unfold r_i; omega
  refine FnR_of1 okX8_byDoing (Nat.le_of_ble_eq_true rfl) fun l z hE => ?_
  show V _ _ _ _ _ _ _ _ 0 [(0, _), (1, _), (2, _), (3, _), (4, _), (5, _)] []
  refine V_aload_n 0 0 dX8_byDoing_0 rfl ?_
  refine V_getR 1 flX8_84 dX8_byDoing_1 rfl ?_
  refine V_iload_n 4 1 dX8_byDoing_4 rfl ?_
  refine V_iald 5 dX8_byDoing_5 rfl (by omega) (by omega) ?_
  rw [hK.2.2.2 i hi]
  refine V_istore 6 [(0, _), (1, _), (2, _), (3, _), (4, _), (5, _), (6, _)] dX8_byDoing_6 (by decide) rfl ?_
  refine V_iload 8 5 dX8_byDoing_8 rfl ?_
  by_cases hb0 : b = 0
  · subst hb0
    refine V_zN_ne 10 36 dX8_byDoing_10 (by decide) (by omega) (fun c => ?_) (fun c => ?_)
    · exact absurd rfl c
    have hr := r_s_le (P := P) (j := i + 1) hs
    refine V_aload_n 13 0 dX8_byDoing_13 rfl ?_
    refine V_getR 14 flX8_100 dX8_byDoing_14 rfl ?_
    refine V_iload_n 17 1 dX8_byDoing_17 rfl ?_
    refine V_cst 18 1 dX8_byDoing_18 rfl ?_
    refine V_add 19 dX8_byDoing_19 ?_
    refine V_iload_n 20 2 dX8_byDoing_20 rfl ?_
    refine V_aload_n 21 0 dX8_byDoing_21 rfl ?_
    refine V_iload_n 22 1 dX8_byDoing_22 rfl ?_
    refine V_cst 23 1 dX8_byDoing_23 rfl ?_
    refine V_add 24 dX8_byDoing_24 ?_
    refine V_iload_n 25 3 dX8_byDoing_25 rfl ?_
    refine V_vi 26 mvX8_288 dX8_byDoing_26 ⟨_, _, _, rfl, rfl, rfl⟩ (w_fit.mono (by omega) hE) (m_spokeAt (d := d) (s := s) hP hK.1 hK.2.2.2 (by omega)) rfl (Nat.le_of_ble_eq_true rfl) ?_
    rintro _ _ _ _ ⟨rfl, rfl, rfl, rfl⟩
    refine V_iload 29 4 dX8_byDoing_29 rfl ?_
    refine V_si 31 msX8_291 dX8_byDoing_31 (w_fit.mono (by omega) hE) (m_cellOf (d := d) (i := i + 1) (h := h) (s := r_s P (i + 1) s) (a := a) (by omega) (by omega) (by omega) ha) rfl (Nat.le_of_ble_eq_true rfl) ?_
    rintro _ _ _ _ ⟨rfl, rfl, rfl, rfl⟩
    have hx := hri h (r_s P (i + 1) s) a hh hr ha
    have hv := h95 h (r_s P (i + 1) s) a hh hr ha
    unfold r_i at hx hv
    refine V_iald 34 dX8_byDoing_34 rfl (by omega) (by omega) ?_
    rw [hv]
    exact V_iret 35 dX8_byDoing_35 rfl ⟨by unfold rD; rw [if_pos rfl], rfl, rfl, rfl⟩
  have hb12 : b = 1 ∨ b = 2 := by omega
  refine V_zN_ne 10 36 dX8_byDoing_10 (by decide) (by omega) (fun c => ?_) (fun c => ?_)
  rotate_left
  · exact absurd c hb0
  have hNo : ¬ ((s ||| si).testBit (r_w P i b) = false ∧ (K ||| h).testBit (r_w P i b) = true) → V mX8_byDoing (w_Er l (d + 1) 0 0 Ω (w_pi (fun r S' I' L' => r = nI (rD P K si (r_p P ks) i b h s a B) ∧ S' = SH u v ∧ J = I' ∧ L = L')) z) Ω 0 0 (SH u v) J L 119 [(0, .ref (Ω.1 + 63)), (1, .int (nI i)), (2, .int (nI h)), (3, .int (nI s)), (4, .int (nI a)), (5, .int (nI b)), (6, .int (nI (r_m P i))), (7, .int (nI (r_w P i b))), (8, .int (nI (r_o P i b)))] [] := by
    intro hno
    refine V_cst 119 0 dX8_byDoing_119 rfl ?_
    refine V_istore 120 [(0, _), (1, _), (2, _), (3, _), (4, _), (5, _), (6, _), (7, _), (8, _), (9, _)] dX8_byDoing_120 (by decide) rfl ?_
    refine V_iload 122 9 dX8_byDoing_122 rfl ?_
    refine V_zN_ne 124 131 dX8_byDoing_124 (by decide) (by omega) (fun c1 => ?_) (fun c1 => ?_)
    · exact absurd rfl c1
    refine V_ldcwN 127 1000000000 kcX8_301 dX8_byDoing_127 rfl ?_
    exact V_iret 130 dX8_byDoing_130 rfl ⟨by unfold rD; rw [if_neg hb0, if_neg hno], rfl, rfl, rfl⟩
  have k86 : V mX8_byDoing (w_Er l (d + 1) 0 0 Ω (w_pi (fun r S' I' L' => r = nI (rD P K si (r_p P ks) i b h s a B) ∧ S' = SH u v ∧ J = I' ∧ L = L')) z) Ω 0 0 (SH u v) J L 86 [(0, .ref (Ω.1 + 63)), (1, .int (nI i)), (2, .int (nI h)), (3, .int (nI s)), (4, .int (nI a)), (5, .int (nI b)), (6, .int (nI (r_m P i))), (7, .int (nI (r_w P i b))), (8, .int (nI (r_o P i b)))] [] := by
    have hs2 : s ||| si < 64 := or6 (by omega) hsi
    have hk2 : K ||| h < 64 := or6 hK64 (by omega)
    refine V_iload_n 86 3 dX8_byDoing_86 rfl ?_
    refine V_aload_n 87 0 dX8_byDoing_87 rfl ?_
    refine V_getI 88 flX8_295 dX8_byDoing_88 rfl ?_
    rw [hK.2.1]
    refine V_or 91 dX8_byDoing_91 ?_
    refine V_iload 92 7 dX8_byDoing_92 rfl ?_
    refine V_shr 94 dX8_byDoing_94 (by omega) (by omega) ?_
    refine V_cst 95 1 dX8_byDoing_95 rfl ?_
    refine V_and 96 dX8_byDoing_96 ?_
    rw [bit01]
    cases c1 : (s ||| si).testBit (r_w P i b)
    rotate_left
    · rw [if_pos rfl]
      refine V_zN_ne 97 119 dX8_byDoing_97 (by decide) (by omega) (fun c2 => ?_) (fun c2 => ?_)
      rotate_left
      · exact absurd c2 (by decide)
      exact hNo (fun q => by rw [q.1] at c1; exact absurd c1 (by decide))
    rw [if_neg (by decide)]
    refine V_zN_ne 97 119 dX8_byDoing_97 (by decide) (by omega) (fun c2 => ?_) (fun c2 => ?_)
    · exact absurd rfl c2
    refine V_aload_n 100 0 dX8_byDoing_100 rfl ?_
    refine V_getI 101 flX8_298 dX8_byDoing_101 rfl ?_
    rw [h42]
    refine V_iload_n 104 2 dX8_byDoing_104 rfl ?_
    refine V_or 105 dX8_byDoing_105 ?_
    refine V_iload 106 7 dX8_byDoing_106 rfl ?_
    refine V_shr 108 dX8_byDoing_108 (by omega) (by omega) ?_
    refine V_cst 109 1 dX8_byDoing_109 rfl ?_
    refine V_and 110 dX8_byDoing_110 ?_
    refine V_cst 111 1 dX8_byDoing_111 rfl ?_
    rw [bit01]
    cases c3 : (K ||| h).testBit (r_w P i b)
    · rw [if_neg (by decide)]
      refine V_cN_ne 112 119 dX8_byDoing_112 (by decide) (by omega) (by omega) (fun c4 => ?_) (fun c4 => ?_)
      rotate_left
      · exact absurd c4 (by decide)
      exact hNo (fun q => by rw [q.2] at c3; exact absurd c3 (by decide))
    rw [if_pos rfl]
    refine V_cN_ne 112 119 dX8_byDoing_112 (by decide) (by omega) (by omega) (fun c4 => ?_) (fun c4 => ?_)
    · exact absurd rfl c4
    refine V_cst 115 1 dX8_byDoing_115 rfl ?_
    refine V_goto 116 120 dX8_byDoing_116 (by decide) ?_
    refine V_istore 120 [(0, _), (1, _), (2, _), (3, _), (4, _), (5, _), (6, _), (7, _), (8, _), (9, _)] dX8_byDoing_120 (by decide) rfl ?_
    refine V_iload 122 9 dX8_byDoing_122 rfl ?_
    refine V_zN_ne 124 131 dX8_byDoing_124 (by decide) (by omega) (fun c5 => ?_) (fun c5 => ?_)
    rotate_left
    · exact absurd c5 (by decide)
    have hra : r_a P i b h a < 2 := by unfold r_a; split <;> decide
    have hrh : r_h P i b h < 2 ^ P 0 0 := Nat.or_lt_two_pow (Nat.or_lt_two_pow hh (p_lt w1)) (p_lt w2)
    have hss : s ||| 2 ^ r_w P i b < 2 ^ P 0 0 := Nat.or_lt_two_pow hs (p_lt w1)
    have hrs := r_s_le (P := P) (j := i + 1) hss
    have k153 : V mX8_byDoing (w_Er l (d + 1) 0 0 Ω (w_pi (fun r S' I' L' => r = nI (rD P K si (r_p P ks) i b h s a B) ∧ S' = SH u v ∧ J = I' ∧ L = L')) z) Ω 0 0 (SH u v) J L 153 [(0, .ref (Ω.1 + 63)), (1, .int (nI i)), (2, .int (nI h)), (3, .int (nI s)), (4, .int (nI a)), (5, .int (nI b)), (6, .int (nI (r_m P i))), (7, .int (nI (r_w P i b))), (8, .int (nI (r_o P i b))), (9, .int (nI 1)), (10, .int (nI (r_a P i b h a)))] [] := by
      have hp : r_p P ks (r_w P i b) ≤ 99 := r_p_le hP _ w1
      have hx := hri (r_h P i b h) (r_s P (i + 1) (s ||| 2 ^ r_w P i b)) (r_a P i b h a) hrh hrs hra
      have hv := h95 (r_h P i b h) (r_s P (i + 1) (s ||| 2 ^ r_w P i b)) (r_a P i b h a) hrh hrs hra
      have hbb := hB (r_h P i b h) (r_s P (i + 1) (s ||| 2 ^ r_w P i b)) (r_a P i b h a) hrh hrs hra
      have eD : rD P K si (r_p P ks) i b h s a B = if B (r_h P i b h) (r_s P (i + 1) (s ||| 2 ^ r_w P i b)) (r_a P i b h a) = NVR then NVR else B (r_h P i b h) (r_s P (i + 1) (s ||| 2 ^ r_w P i b)) (r_a P i b h a) + r_p P ks (r_w P i b) := by unfold rD; rw [if_neg hb0, if_pos ⟨c1, c3⟩]
      unfold r_i at hx hv
      refine V_aload_n 153 0 dX8_byDoing_153 rfl ?_
      refine V_getR 154 flX8_100 dX8_byDoing_154 rfl ?_
      refine V_iload_n 157 1 dX8_byDoing_157 rfl ?_
      refine V_cst 158 1 dX8_byDoing_158 rfl ?_
      refine V_add 159 dX8_byDoing_159 ?_
      refine V_iload_n 160 2 dX8_byDoing_160 rfl ?_
      refine V_cst 161 1 dX8_byDoing_161 rfl ?_
      refine V_iload 162 7 dX8_byDoing_162 rfl ?_
      refine V_shl 164 dX8_byDoing_164 (by omega) ?_
      refine V_or 165 dX8_byDoing_165 ?_
      refine V_cst 166 1 dX8_byDoing_166 rfl ?_
      refine V_iload 167 8 dX8_byDoing_167 rfl ?_
      refine V_shl 169 dX8_byDoing_169 (by omega) ?_
      refine V_or 170 dX8_byDoing_170 ?_
      refine V_aload_n 171 0 dX8_byDoing_171 rfl ?_
      refine V_iload_n 172 1 dX8_byDoing_172 rfl ?_
      refine V_cst 173 1 dX8_byDoing_173 rfl ?_
      refine V_add 174 dX8_byDoing_174 ?_
      refine V_iload_n 175 3 dX8_byDoing_175 rfl ?_
      refine V_cst 176 1 dX8_byDoing_176 rfl ?_
      refine V_iload 177 7 dX8_byDoing_177 rfl ?_
      refine V_shl 179 dX8_byDoing_179 (by omega) ?_
      refine V_or 180 dX8_byDoing_180 ?_
      rw [Nat.one_mul, Nat.one_mul]
      refine V_vi 181 mvX8_288 dX8_byDoing_181 ⟨_, _, _, rfl, rfl, rfl⟩ (w_fit.mono (by omega) hE) (m_spokeAt (d := d) (s := s ||| 2 ^ r_w P i b) hP hK.1 hK.2.2.2 (by omega)) rfl (Nat.le_of_ble_eq_true rfl) ?_
      rintro _ _ _ _ ⟨rfl, rfl, rfl, rfl⟩
      refine V_iload 184 10 dX8_byDoing_184 rfl ?_
      rw [show h ||| 2 ^ r_w P i b ||| 2 ^ r_o P i b = r_h P i b h from rfl]
      refine V_si 186 msX8_291 dX8_byDoing_186 (w_fit.mono (by omega) hE) (m_cellOf (d := d) (i := i + 1) (h := r_h P i b h) (s := r_s P (i + 1) (s ||| 2 ^ r_w P i b)) (a := r_a P i b h a) (by omega) (by omega) (by omega) hra) rfl (Nat.le_of_ble_eq_true rfl) ?_
      rintro _ _ _ _ ⟨rfl, rfl, rfl, rfl⟩
      refine V_iald 189 dX8_byDoing_189 rfl (by omega) (by omega) ?_
      rw [hv]
      generalize B (r_h P i b h) (r_s P (i + 1) (s ||| 2 ^ r_w P i b)) (r_a P i b h a) = y at hbb eD ⊢
      rw [eD]
      refine V_istore 190 [(0, _), (1, _), (2, _), (3, _), (4, _), (5, _), (6, _), (7, _), (8, _), (9, _), (10, _), (11, _)] dX8_byDoing_190 (by decide) rfl ?_
      refine V_iload 192 11 dX8_byDoing_192 rfl ?_
      refine V_ldcwN 194 1000000000 kcX8_301 dX8_byDoing_194 rfl ?_
      refine V_cN_ne 197 206 dX8_byDoing_197 (by decide) (by omega) (by omega) (fun c6 => ?_) (fun c6 => ?_)
      rotate_left
      · refine V_ldcwN 200 1000000000 kcX8_301 dX8_byDoing_200 rfl ?_
        refine V_goto 203 227 dX8_byDoing_203 (by decide) ?_
        exact V_iret 227 dX8_byDoing_227 rfl ⟨by rw [if_pos c6], rfl, rfl, rfl⟩
      refine V_iload 206 11 dX8_byDoing_206 rfl ?_
      refine V_aload_n 208 0 dX8_byDoing_208 rfl ?_
      refine V_getI 209 flX8_302 dX8_byDoing_209 rfl ?_
      rw [hK.2.2.1]
      rcases hks with rfl | rfl
      · refine V_zN_eq 212 219 dX8_byDoing_212 (by decide) (by omega) (fun c7 => ?_) (fun c7 => ?_)
        rotate_left
        · exact absurd rfl c7
        refine V_aload_n 219 0 dX8_byDoing_219 rfl ?_
        refine V_getR 220 flX8_13 dX8_byDoing_220 rfl ?_
        refine V_iload 223 7 dX8_byDoing_223 rfl ?_
        refine V_iald 225 dX8_byDoing_225 rfl (by omega) (by omega) ?_
        rw [hK.1.2.2.2.1 _ (by omega)]
        refine V_add 226 dX8_byDoing_226 ?_
        exact V_iret 227 dX8_byDoing_227 rfl ⟨by rw [if_neg c6]; rfl, rfl, rfl, rfl⟩
      · refine V_zN_eq 212 219 dX8_byDoing_212 (by decide) (by omega) (fun c7 => ?_) (fun c7 => ?_)
        · exact absurd c7 (by decide)
        refine V_cst 215 1 dX8_byDoing_215 rfl ?_
        refine V_goto 216 226 dX8_byDoing_216 (by decide) ?_
        refine V_add 226 dX8_byDoing_226 ?_
        exact V_iret 227 dX8_byDoing_227 rfl ⟨by rw [if_neg c6]; rfl, rfl, rfl, rfl⟩
    refine V_iload 131 4 dX8_byDoing_131 rfl ?_
    refine V_cst 133 1 dX8_byDoing_133 rfl ?_
    refine V_cN_eq 134 146 dX8_byDoing_134 (by decide) (by omega) (by omega) (fun c6 => ?_) (fun c6 => ?_)
    · refine V_cst 146 1 dX8_byDoing_146 rfl ?_
      refine V_goto 147 151 dX8_byDoing_147 (by decide) ?_
      refine V_istore 151 [(0, _), (1, _), (2, _), (3, _), (4, _), (5, _), (6, _), (7, _), (8, _), (9, _), (10, _)] dX8_byDoing_151 (by decide) rfl ?_
      have e : r_a P i b h a = 1 := by unfold r_a; rw [if_pos (Or.inl c6)]
      rw [e] at k153
      exact k153
    refine V_iload_n 137 2 dX8_byDoing_137 rfl ?_
    refine V_iload 138 8 dX8_byDoing_138 rfl ?_
    refine V_shr 140 dX8_byDoing_140 (by omega) (by omega) ?_
    refine V_cst 141 1 dX8_byDoing_141 rfl ?_
    refine V_and 142 dX8_byDoing_142 ?_
    rw [bit01]
    cases c7 : h.testBit (r_o P i b)
    · rw [if_neg (by decide)]
      refine V_zN_ne 143 150 dX8_byDoing_143 (by decide) (by omega) (fun c8 => ?_) (fun c8 => ?_)
      · exact absurd rfl c8
      refine V_cst 146 1 dX8_byDoing_146 rfl ?_
      refine V_goto 147 151 dX8_byDoing_147 (by decide) ?_
      refine V_istore 151 [(0, _), (1, _), (2, _), (3, _), (4, _), (5, _), (6, _), (7, _), (8, _), (9, _), (10, _)] dX8_byDoing_151 (by decide) rfl ?_
      have e : r_a P i b h a = 1 := by unfold r_a; rw [if_pos (Or.inr c7)]
      rw [e] at k153
      exact k153
    · rw [if_pos rfl]
      refine V_zN_ne 143 150 dX8_byDoing_143 (by decide) (by omega) (fun c8 => ?_) (fun c8 => ?_)
      rotate_left
      · exact absurd c8 (by decide)
      refine V_cst 150 0 dX8_byDoing_150 rfl ?_
      refine V_istore 151 [(0, _), (1, _), (2, _), (3, _), (4, _), (5, _), (6, _), (7, _), (8, _), (9, _), (10, _)] dX8_byDoing_151 (by decide) rfl ?_
      have e : r_a P i b h a = 0 := by unfold r_a; rw [if_neg (fun q => by rcases q with q | q; exact c6 q; rw [c7] at q; exact absurd q (by decide))]
      rw [e] at k153
      exact k153
  refine V_iload 36 5 dX8_byDoing_36 rfl ?_
  refine V_cst 38 1 dX8_byDoing_38 rfl ?_
  rcases hb12 with rfl | rfl
  · have e1 : r_w P i 1 = P 3 (r_m P i) := rfl
    have e2 : r_o P i 1 = P 4 (r_m P i) := rfl
    rw [e1, e2] at k86
    refine V_cN_ne 39 52 dX8_byDoing_39 (by decide) (by omega) (by omega) (fun c1 => ?_) (fun c1 => ?_)
    · exact absurd rfl c1
    refine V_aload_n 42 0 dX8_byDoing_42 rfl ?_
    refine V_getR 43 flX8_16 dX8_byDoing_43 rfl ?_
    refine V_iload 46 6 dX8_byDoing_46 rfl ?_
    refine V_iald 48 dX8_byDoing_48 rfl (by omega) (by omega) ?_
    rw [m3]
    refine V_goto 49 59 dX8_byDoing_49 (by decide) ?_
    refine V_istore 59 [(0, _), (1, _), (2, _), (3, _), (4, _), (5, _), (6, _), (7, _)] dX8_byDoing_59 (by decide) rfl ?_
    refine V_iload 61 5 dX8_byDoing_61 rfl ?_
    refine V_cst 63 1 dX8_byDoing_63 rfl ?_
    refine V_cN_ne 64 77 dX8_byDoing_64 (by decide) (by omega) (by omega) (fun c2 => ?_) (fun c2 => ?_)
    · exact absurd rfl c2
    refine V_aload_n 67 0 dX8_byDoing_67 rfl ?_
    refine V_getR 68 flX8_19 dX8_byDoing_68 rfl ?_
    refine V_iload 71 6 dX8_byDoing_71 rfl ?_
    refine V_iald 73 dX8_byDoing_73 rfl (by omega) (by omega) ?_
    rw [m4]
    refine V_goto 74 84 dX8_byDoing_74 (by decide) ?_
    refine V_istore 84 [(0, _), (1, _), (2, _), (3, _), (4, _), (5, _), (6, _), (7, _), (8, _)] dX8_byDoing_84 (by decide) rfl ?_
    exact k86
  · have e1 : r_w P i 2 = P 4 (r_m P i) := rfl
    have e2 : r_o P i 2 = P 3 (r_m P i) := rfl
    rw [e1, e2] at k86
    refine V_cN_ne 39 52 dX8_byDoing_39 (by decide) (by omega) (by omega) (fun c1 => ?_) (fun c1 => ?_)
    rotate_left
    · exact absurd c1 (by decide)
    refine V_aload_n 52 0 dX8_byDoing_52 rfl ?_
    refine V_getR 53 flX8_19 dX8_byDoing_53 rfl ?_
    refine V_iload 56 6 dX8_byDoing_56 rfl ?_
    refine V_iald 58 dX8_byDoing_58 rfl (by omega) (by omega) ?_
    rw [m4]
    refine V_istore 59 [(0, _), (1, _), (2, _), (3, _), (4, _), (5, _), (6, _), (7, _)] dX8_byDoing_59 (by decide) rfl ?_
    refine V_iload 61 5 dX8_byDoing_61 rfl ?_
    refine V_cst 63 1 dX8_byDoing_63 rfl ?_
    refine V_cN_ne 64 77 dX8_byDoing_64 (by decide) (by omega) (by omega) (fun c2 => ?_) (fun c2 => ?_)
    rotate_left
    · exact absurd c2 (by decide)
    refine V_aload_n 77 0 dX8_byDoing_77 rfl ?_
    refine V_getR 78 flX8_16 dX8_byDoing_78 rfl ?_
    refine V_iload 81 6 dX8_byDoing_81 rfl ?_
    refine V_iald 83 dX8_byDoing_83 rfl (by omega) (by omega) ?_
    rw [m3]
    refine V_istore 84 [(0, _), (1, _), (2, _), (3, _), (4, _), (5, _), (6, _), (7, _), (8, _)] dX8_byDoing_84 (by decide) rfl ?_
    exact k86
end
