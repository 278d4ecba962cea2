theorem iinc_m1 : ∀ k, k < 13 → nI k + Int32.ofInt (-1) = nI (m_1 k) := by decide +kernel
section
variable {Ω : w_O} {d u v : Nat} {L : w_L} {E : w_E} {P : w_R} {K si ks m : Nat} {f : Nat → Nat}
/-- the table's level i, before the state h, s, a -/
def Ln (P : w_R) (K si : Nat) (w f : Nat → Nat) (i h s a : Nat) (J : w_I) : Prop := ∀ h' s' a', h' < 2 ^ P 0 0 → s' < 2 ^ P 0 0 → a' < 2 → (h' < h ∨ (h' = h ∧ (s' < s ∨ (s' = s ∧ a' < a)))) → J 92 (r_i i h' s' a') = rB P K si w f (P 2 0 - i) h' s' a'
/-- the levels from i on -/
def Lv (P : w_R) (K si : Nat) (w f : Nat → Nat) (i : Nat) (J : w_I) : Prop := ∀ i', i ≤ i' → i' ≤ P 2 0 → ∀ h s a, h < 2 ^ P 0 0 → s < 2 ^ P 0 0 → a < 2 → J 92 (r_i i' h s a) = rB P K si w f (P 2 0 - i') h s a
theorem r_i_inj {i h s a i' h' s' a' : Nat} (h1 : h < 64) (s1 : s < 64) (a1 : a < 2) (h2 : h' < 64) (s2 : s' < 64) (a2 : a' < 2) (e : r_i i h s a = r_i i' h' s' a') : i = i' ∧ h = h' ∧ s = s' ∧ a = a' := by unfold r_i at e; omega
theorem Ln.put {w : Nat → Nat} {i h s a x : Nat} {J : w_I} (h64 : 2 ^ P 0 0 ≤ 64) (hh : h < 2 ^ P 0 0) (hs : s < 2 ^ P 0 0) (ha : a < 2) (hL : Ln P K si w f i h s a J) (hx : x = rB P K si w f (P 2 0 - i) h s a) : Ln P K si w f i h s (a + 1) (w_put J 92 (r_i i h s a) x) := by
  intro h' s' a' q1 q2 q3 q4
  by_cases e : r_i i h' s' a' = r_i i h s a
  · obtain ⟨-, rfl, rfl, rfl⟩ := r_i_inj (by omega) (by omega) q3 (by omega) (by omega) ha e
    rw [w_put_same, hx]
  · rw [w_put_other _ (Or.inr e)]
    refine hL h' s' a' q1 q2 q3 ?_
    have : ¬ (h' = h ∧ s' = s ∧ a' = a) := fun w => e (by rw [w.1, w.2.1, w.2.2])
    omega
theorem Lv.put {w : Nat → Nat} {i h s a x : Nat} {J : w_I} (h64 : 2 ^ P 0 0 ≤ 64) (hh : h < 2 ^ P 0 0) (hs : s < 2 ^ P 0 0) (ha : a < 2) (hL : Lv P K si w f (i + 1) J) : Lv P K si w f (i + 1) (w_put J 92 (r_i i h s a) x) := by
  intro i' q1 q2 h' s' a' q3 q4 q5
  rw [w_put_other _ (Or.inr (fun e => by have := (r_i_inj (by omega) (by omega) q5 (by omega) (by omega) ha e).1; omega))]
  exact hL i' q1 q2 h' s' a' q3 q4 q5
/-- what stays while the table is written -/
def FrB (I I' : w_I) : Prop := ∀ i, i ≠ 92 → I' i = I i
theorem td_a {i h s : Nat} {B : w_I} (hE : w_fit (d + 1) E) (hP : s_POK P) (hK : KF P si ks B) (hks : ks = 0 ∨ ks = 1) (h42 : B 63 42 = K) (hK64 : K < 64) (hsi : si < 64) (hm : m ≤ 500000) (hf : ∀ h, h < 2 ^ P 0 0 → f h = NVR ∨ f h ≤ m) (hi : i < P 2 0) (hh : h < 2 ^ P 0 0) (hs : s < 2 ^ P 0 0) : ∀ (n a : Nat) (J : w_I), a + n = 2 → FrB B J → Lv P K si (r_p P ks) f (i + 1) J → Ln P K si (r_p P ks) f i h s a J →
    (∀ J', FrB B J' → Lv P K si (r_p P ks) f (i + 1) J' → Ln P K si (r_p P ks) f i h s 2 J' → V mX8_tellDay E Ω 0 0 (SH u v) J' L 190 [(0, .ref (Ω.1 + 63)), (1, .int (nI K)), (2, .int (nI (2 ^ P 0 0))), (3, .int (nI i)), (4, .int (nI h)), (5, .int (nI s)), (6, .int (nI 2))] []) →
    V mX8_tellDay E Ω 0 0 (SH u v) J L 121 [(0, .ref (Ω.1 + 63)), (1, .int (nI K)), (2, .int (nI (2 ^ P 0 0))), (3, .int (nI i)), (4, .int (nI h)), (5, .int (nI s)), (6, .int (nI a))] [] := by
  have h6 := hP.1.2
  have h12 := hP.2.2.1
  have hNV : NVR = 1000000000 := rfl
  have h64 : 2 ^ P 0 0 ≤ 64 := Nat.pow_le_pow_right (n := 2) (j := 6) (by decide) h6
  intro n
  induction n with
  | zero =>
    intro a J ha hF hL hN hk
    have e : a = 2 := by omega
    subst e
    refine V_iload 121 6 dX8_tellDay_121 rfl ?_
    refine V_cst 123 2 dX8_tellDay_123 rfl ?_
    refine V_cN_ge 124 190 dX8_tellDay_124 (by decide) (by omega) (by omega) (fun c => ?_) (fun c => ?_)
    · exact hk J hF hL hN
    · omega
  | succ n ih =>
    intro a J ha hF hL hN hk
    have hKJ : KF P si ks J := ⟨hK.1.of (fun i _ _ => hF i (by omega)), by rw [hF 63 (by decide)]; exact hK.2.1, by rw [hF 63 (by decide)]; exact hK.2.2.1, fun j hj => by rw [hF 87 (by decide)]; exact hK.2.2.2 j hj⟩
    have h42J : J 63 42 = K := by rw [hF 63 (by decide)]; exact h42
    have hBb := rB_b (K := K) (si := si) (w := r_p P ks) (f := f) hP (r_p_le hP) hm hf (P 2 0 - (i + 1)) (by omega)
    have h95 : ∀ h s a, h < 2 ^ P 0 0 → s < 2 ^ P 0 0 → a < 2 → J 92 (r_i (i + 1) h s a) = rB P K si (r_p P ks) f (P 2 0 - (i + 1)) h s a := fun h s a q1 q2 q3 => hL (i + 1) (Nat.le_refl _) (by omega) h s a q1 q2 q3
    have hx : r_i i h s a < 106496 := by unfold r_i; omega
    have d0 := rD_b (K := K) (si := si) (w := r_p P ks) hP (r_p_le hP) (b := 0) hi hh hs (show a < 2 by omega) hBb
    have d1 := rD_b (K := K) (si := si) (w := r_p P ks) hP (r_p_le hP) (b := 1) hi hh hs (show a < 2 by omega) hBb
    have d2 := rD_b (K := K) (si := si) (w := r_p P ks) hP (r_p_le hP) (b := 2) hi hh hs (show a < 2 by omega) hBb
    have eB : rB P K si (r_p P ks) f (P 2 0 - i) h s a = min (rD P K si (r_p P ks) i 0 h s a (rB P K si (r_p P ks) f (P 2 0 - (i + 1)))) (min (rD P K si (r_p P ks) i 1 h s a (rB P K si (r_p P ks) f (P 2 0 - (i + 1)))) (rD P K si (r_p P ks) i 2 h s a (rB P K si (r_p P ks) f (P 2 0 - (i + 1))))) := by
      rw [show P 2 0 - i = (P 2 0 - (i + 1)) + 1 by omega]
      show min (rD P K si (r_p P ks) (P 2 0 - ((P 2 0 - (i + 1)) + 1)) 0 h s a _) _ = _
      rw [show P 2 0 - ((P 2 0 - (i + 1)) + 1) = i by omega]
    refine V_iload 121 6 dX8_tellDay_121 rfl ?_
    refine V_cst 123 2 dX8_tellDay_123 rfl ?_
    refine V_cN_ge 124 190 dX8_tellDay_124 (by decide) (by omega) (by omega) (fun c => ?_) (fun c => ?_)
    · omega
    refine V_aload_n 127 0 dX8_tellDay_127 rfl ?_
    refine V_getR 128 flX8_100 dX8_tellDay_128 rfl ?_
    refine V_iload_n 131 3 dX8_tellDay_131 rfl ?_
    refine V_iload 132 4 dX8_tellDay_132 rfl ?_
    refine V_iload 134 5 dX8_tellDay_134 rfl ?_
    refine V_iload 136 6 dX8_tellDay_136 rfl ?_
    refine V_si 138 msX8_291 dX8_tellDay_138 (w_fit.mono (by omega) hE) (m_cellOf (d := d) (i := i) (h := h) (s := s) (a := a) (by omega) (by omega) (by omega) (by omega)) rfl (Nat.le_of_ble_eq_true rfl) ?_
    rintro _ _ _ _ ⟨rfl, rfl, rfl, rfl⟩
    refine V_aload_n 141 0 dX8_tellDay_141 rfl ?_
    refine V_iload_n 142 3 dX8_tellDay_142 rfl ?_
    refine V_iload 143 4 dX8_tellDay_143 rfl ?_
    refine V_iload 145 5 dX8_tellDay_145 rfl ?_
    refine V_iload 147 6 dX8_tellDay_147 rfl ?_
    refine V_cst 149 0 dX8_tellDay_149 rfl ?_
    refine V_vi 150 mvX8_305 dX8_tellDay_150 ⟨_, _, _, rfl, rfl, rfl⟩ (w_fit.mono (by omega) hE) (m_byDoing (d := d) (m := m + 99 * (P 2 0 - (i + 1))) (b := 0) hP hKJ hks h42J hK64 hsi hi (by decide) hh hs (by omega) (by omega) hBb h95) rfl (Nat.le_of_ble_eq_true rfl) ?_
    rintro _ _ _ _ ⟨rfl, rfl, rfl, rfl⟩
    refine V_aload_n 153 0 dX8_tellDay_153 rfl ?_
    refine V_iload_n 154 3 dX8_tellDay_154 rfl ?_
    refine V_iload 155 4 dX8_tellDay_155 rfl ?_
    refine V_iload 157 5 dX8_tellDay_157 rfl ?_
    refine V_iload 159 6 dX8_tellDay_159 rfl ?_
    refine V_cst 161 1 dX8_tellDay_161 rfl ?_
    refine V_vi 162 mvX8_305 dX8_tellDay_162 ⟨_, _, _, rfl, rfl, rfl⟩ (w_fit.mono (by omega) hE) (m_byDoing (d := d) (m := m + 99 * (P 2 0 - (i + 1))) (b := 1) hP hKJ hks h42J hK64 hsi hi (by decide) hh hs (by omega) (by omega) hBb h95) rfl (Nat.le_of_ble_eq_true rfl) ?_
    rintro _ _ _ _ ⟨rfl, rfl, rfl, rfl⟩
    refine V_aload_n 165 0 dX8_tellDay_165 rfl ?_
    refine V_iload_n 166 3 dX8_tellDay_166 rfl ?_
    refine V_iload 167 4 dX8_tellDay_167 rfl ?_
    refine V_iload 169 5 dX8_tellDay_169 rfl ?_
    refine V_iload 171 6 dX8_tellDay_171 rfl ?_
    refine V_cst 173 2 dX8_tellDay_173 rfl ?_
    refine V_vi 174 mvX8_305 dX8_tellDay_174 ⟨_, _, _, rfl, rfl, rfl⟩ (w_fit.mono (by omega) hE) (m_byDoing (d := d) (m := m + 99 * (P 2 0 - (i + 1))) (b := 2) hP hKJ hks h42J hK64 hsi hi (by decide) hh hs (by omega) (by omega) hBb h95) rfl (Nat.le_of_ble_eq_true rfl) ?_
    rintro _ _ _ _ ⟨rfl, rfl, rfl, rfl⟩
    have hb' : ∀ y, (y = NVR ∨ y ≤ m + 99 * (P 2 0 - (i + 1)) + 99) → y < 2147483648 := fun y q => by omega
    have t0 := hb' _ d0
    have t1 := hb' _ d1
    have t2 := hb' _ d2
    clear d0 d1 d2 hb'
    rw [show ((i * 64 + h) * 64 + s) * 2 + a = r_i i h s a from rfl]
    generalize rD P K si (r_p P ks) i 0 h s a (rB P K si (r_p P ks) f (P 2 0 - (i + 1))) = x0 at t0 eB ⊢
    generalize rD P K si (r_p P ks) i 1 h s a (rB P K si (r_p P ks) f (P 2 0 - (i + 1))) = x1 at t1 eB ⊢
    generalize rD P K si (r_p P ks) i 2 h s a (rB P K si (r_p P ks) f (P 2 0 - (i + 1))) = x2 at t2 eB ⊢
    refine V_mini 177 (by omega) (by omega) mnX8_164 dX8_tellDay_177 (w_fit.mono (by omega) hE) (Nat.le_of_ble_eq_true rfl) ?_
    refine V_mini 180 (by omega) (by omega) mnX8_164 dX8_tellDay_180 (w_fit.mono (by omega) hE) (Nat.le_of_ble_eq_true rfl) ?_
    refine V_iast 183 dX8_tellDay_183 rfl (by omega) (by omega) ?_
    refine V_inc 184 6 _ [(0, _), (1, _), (2, _), (3, _), (4, _), (5, _), (6, _)] dX8_tellDay_184 rfl rfl rfl (by decide) rfl ?_
    refine V_goto 187 121 dX8_tellDay_187 (by decide) ?_
    exact ih (a + 1) _ (by omega) (fun q hq => by rw [w_put_ne _ _ hq]; exact hF q hq) (hL.put h64 hh hs (by omega)) (hN.put h64 hh hs (by omega) eB.symm) hk
theorem td_s {i h : Nat} {B : w_I} (hE : w_fit (d + 1) E) (hP : s_POK P) (hK : KF P si ks B) (hks : ks = 0 ∨ ks = 1) (h42 : B 63 42 = K) (hK64 : K < 64) (hsi : si < 64) (hm : m ≤ 500000) (hf : ∀ h, h < 2 ^ P 0 0 → f h = NVR ∨ f h ≤ m) (hi : i < P 2 0) (hh : h < 2 ^ P 0 0) : ∀ (n s : Nat) (J : w_I), s + n = 2 ^ P 0 0 → FrB B J → Lv P K si (r_p P ks) f (i + 1) J → Ln P K si (r_p P ks) f i h s 0 J →
    (∀ J', FrB B J' → Lv P K si (r_p P ks) f (i + 1) J' → Ln P K si (r_p P ks) f i (h + 1) 0 0 J' → V mX8_tellDay E Ω 0 0 (SH u v) J' L 196 [(0, .ref (Ω.1 + 63)), (1, .int (nI K)), (2, .int (nI (2 ^ P 0 0))), (3, .int (nI i)), (4, .int (nI h)), (5, .int (nI (2 ^ P 0 0)))] []) →
    V mX8_tellDay E Ω 0 0 (SH u v) J L 112 [(0, .ref (Ω.1 + 63)), (1, .int (nI K)), (2, .int (nI (2 ^ P 0 0))), (3, .int (nI i)), (4, .int (nI h)), (5, .int (nI s))] [] := by
  have h6 := hP.1.2
  have h12 := hP.2.2.1
  have h64 : 2 ^ P 0 0 ≤ 64 := Nat.pow_le_pow_right (n := 2) (j := 6) (by decide) h6
  intro n
  induction n with
  | zero =>
    intro s J hs hF hL hN hk
    have e : s = 2 ^ P 0 0 := by omega
    subst e
    refine V_iload 112 5 dX8_tellDay_112 rfl ?_
    refine V_iload_n 114 2 dX8_tellDay_114 rfl ?_
    refine V_cN_ge 115 196 dX8_tellDay_115 (by decide) (by omega) (by omega) (fun c => ?_) (fun c => ?_)
    · exact hk J hF hL (fun h' s' a' q1 q2 q3 q4 => hN h' s' a' q1 q2 q3 (by omega))
    · omega
  | succ n ih =>
    intro s J hs hF hL hN hk
    refine V_iload 112 5 dX8_tellDay_112 rfl ?_
    refine V_iload_n 114 2 dX8_tellDay_114 rfl ?_
    refine V_cN_ge 115 196 dX8_tellDay_115 (by decide) (by omega) (by omega) (fun c => ?_) (fun c => ?_)
    · omega
    refine V_cst 118 0 dX8_tellDay_118 rfl ?_
    refine V_istore 119 [(0, _), (1, _), (2, _), (3, _), (4, _), (5, _), (6, _)] dX8_tellDay_119 (by decide) rfl ?_
    refine td_a (d := d) (B := B) hE hP hK hks h42 hK64 hsi hm hf hi hh (by omega) 2 0 J (by omega) hF hL hN (fun J' g1 g2 g3 => ?_)
    refine V_inc 190 5 _ [(0, _), (1, _), (2, _), (3, _), (4, _), (5, _), (6, _)] dX8_tellDay_190 rfl rfl rfl (by decide) rfl ?_
    refine V_sub [(0, _), (1, _), (2, _), (3, _), (4, _), (5, _)] [0, 1, 2, 3, 4, 5] rfl ?_
    refine V_goto 193 112 dX8_tellDay_193 (by decide) ?_
    refine V_sub [(0, _), (1, _), (2, _), (3, _), (4, _), (5, _)] [0, 1, 2, 3, 4, 5] rfl ?_
    exact ih (s + 1) J' (by omega) g1 g2 (fun h' s' a' q1 q2 q3 q4 => g3 h' s' a' q1 q2 q3 (by omega)) hk
theorem td_h {i : Nat} {B : w_I} (hE : w_fit (d + 1) E) (hP : s_POK P) (hK : KF P si ks B) (hks : ks = 0 ∨ ks = 1) (h42 : B 63 42 = K) (hK64 : K < 64) (hsi : si < 64) (hm : m ≤ 500000) (hf : ∀ h, h < 2 ^ P 0 0 → f h = NVR ∨ f h ≤ m) (hi : i < P 2 0) : ∀ (n h : Nat) (J : w_I), h + n = 2 ^ P 0 0 → FrB B J → Lv P K si (r_p P ks) f (i + 1) J → Ln P K si (r_p P ks) f i h 0 0 J →
    (∀ J', FrB B J' → Lv P K si (r_p P ks) f i J' → V mX8_tellDay E Ω 0 0 (SH u v) J' L 202 [(0, .ref (Ω.1 + 63)), (1, .int (nI K)), (2, .int (nI (2 ^ P 0 0))), (3, .int (nI i)), (4, .int (nI (2 ^ P 0 0)))] []) →
    V mX8_tellDay E Ω 0 0 (SH u v) J L 103 [(0, .ref (Ω.1 + 63)), (1, .int (nI K)), (2, .int (nI (2 ^ P 0 0))), (3, .int (nI i)), (4, .int (nI h))] [] := by
  have h6 := hP.1.2
  have h12 := hP.2.2.1
  have h64 : 2 ^ P 0 0 ≤ 64 := Nat.pow_le_pow_right (n := 2) (j := 6) (by decide) h6
  intro n
  induction n with
  | zero =>
    intro h J hh hF hL hN hk
    have e : h = 2 ^ P 0 0 := by omega
    subst e
    refine V_iload 103 4 dX8_tellDay_103 rfl ?_
    refine V_iload_n 105 2 dX8_tellDay_105 rfl ?_
    refine V_cN_ge 106 202 dX8_tellDay_106 (by decide) (by omega) (by omega) (fun c => ?_) (fun c => ?_)
    · refine hk J hF (fun i' q1 q2 h s a q3 q4 q5 => ?_)
      by_cases e : i' = i
      · subst e
        exact hN h s a q3 q4 q5 (by omega)
      · exact hL i' (by omega) q2 h s a q3 q4 q5
    · omega
  | succ n ih =>
    intro h J hh hF hL hN hk
    refine V_iload 103 4 dX8_tellDay_103 rfl ?_
    refine V_iload_n 105 2 dX8_tellDay_105 rfl ?_
    refine V_cN_ge 106 202 dX8_tellDay_106 (by decide) (by omega) (by omega) (fun c => ?_) (fun c => ?_)
    · omega
    refine V_cst 109 0 dX8_tellDay_109 rfl ?_
    refine V_istore 110 [(0, _), (1, _), (2, _), (3, _), (4, _), (5, _)] dX8_tellDay_110 (by decide) rfl ?_
    refine td_s (d := d) (B := B) hE hP hK hks h42 hK64 hsi hm hf hi (by omega) (2 ^ P 0 0) 0 J (by omega) hF hL hN (fun J' g1 g2 g3 => ?_)
    refine V_inc 196 4 _ [(0, _), (1, _), (2, _), (3, _), (4, _), (5, _)] dX8_tellDay_196 rfl rfl rfl (by decide) rfl ?_
    refine V_sub [(0, _), (1, _), (2, _), (3, _), (4, _)] [0, 1, 2, 3, 4] rfl ?_
    refine V_goto 199 103 dX8_tellDay_199 (by decide) ?_
    refine V_sub [(0, _), (1, _), (2, _), (3, _), (4, _)] [0, 1, 2, 3, 4] rfl ?_
    exact ih (h + 1) J' (by omega) g1 g2 g3 hk
theorem td_i {B : w_I} (hE : w_fit (d + 1) E) (hP : s_POK P) (hK : KF P si ks B) (hks : ks = 0 ∨ ks = 1) (h42 : B 63 42 = K) (hK64 : K < 64) (hsi : si < 64) (hm : m ≤ 500000) (hf : ∀ h, h < 2 ^ P 0 0 → f h = NVR ∨ f h ≤ m) : ∀ (n : Nat) (J : w_I), n ≤ P 2 0 → FrB B J → Lv P K si (r_p P ks) f n J →
    (∀ J' x, FrB B J' → Lv P K si (r_p P ks) f 0 J' → V mX8_tellDay E Ω 0 0 (SH u v) J' L 208 [(0, .ref (Ω.1 + 63)), (1, .int (nI K)), (2, .int (nI (2 ^ P 0 0))), (3, .int (nI x))] []) →
    V mX8_tellDay E Ω 0 0 (SH u v) J L 96 [(0, .ref (Ω.1 + 63)), (1, .int (nI K)), (2, .int (nI (2 ^ P 0 0))), (3, .int (nI (m_1 n)))] [] := by
  have h12 := hP.2.2.1
  have hpos : 1 ≤ 2 ^ P 0 0 := Nat.one_le_two_pow
  intro n
  induction n with
  | zero =>
    intro J hn hF hL hk
    have e : m_1 0 = 4294967295 := rfl
    rw [e]
    refine V_iload_n 96 3 dX8_tellDay_96 rfl ?_
    refine V_zN_lt 97 208 dX8_tellDay_97 (by decide) (by omega) (fun c => ?_) (fun c => ?_)
    · exact hk J _ hF hL
    · omega
  | succ n ih =>
    intro J hn hF hL hk
    have e : m_1 (n + 1) = n := by unfold m_1; rw [if_neg (by omega)]; omega
    rw [e]
    refine V_iload_n 96 3 dX8_tellDay_96 rfl ?_
    refine V_zN_lt 97 208 dX8_tellDay_97 (by decide) (by omega) (fun c => ?_) (fun c => ?_)
    · omega
    refine V_cst 100 0 dX8_tellDay_100 rfl ?_
    refine V_istore 101 [(0, _), (1, _), (2, _), (3, _), (4, _)] dX8_tellDay_101 (by decide) rfl ?_
    refine td_h (d := d) (B := B) hE hP hK hks h42 hK64 hsi hm hf (by omega) (2 ^ P 0 0) 0 J (by omega) hF hL (fun h' s' a' q1 q2 q3 q4 => by omega) (fun J' g1 g2 => ?_)
    refine V_iinc 202 3 (nI (m_1 n)) [(0, _), (1, _), (2, _), (3, _), (4, _)] dX8_tellDay_202 rfl (iinc_m1 n (by omega)) (by decide) rfl ?_
    refine V_sub [(0, _), (1, _), (2, _), (3, _)] [0, 1, 2, 3] rfl ?_
    refine V_goto 205 96 dX8_tellDay_205 (by decide) ?_
    refine V_sub [(0, _), (1, _), (2, _), (3, _)] [0, 1, 2, 3] rfl ?_
    exact ih J' (by omega) g1 g2 hk
/-- the last level -/
theorem td_0 {h : Nat} {B : w_I} (hE : w_fit d E) (hP : s_POK P) (hM : MP P B) (hf : ∀ h, h < 2 ^ P 0 0 → B 88 h = f h) (hh : h < 2 ^ P 0 0) : ∀ (n s : Nat) (J : w_I), s + n = 2 ^ P 0 0 → FrB B J → Ln P K si (r_p P ks) f (P 2 0) h s 0 J →
    (∀ J', FrB B J' → Ln P K si (r_p P ks) f (P 2 0) (h + 1) 0 0 J' → V mX8_tellDay E Ω 0 0 (SH u v) J' L 81 [(0, .ref (Ω.1 + 63)), (1, .int (nI K)), (2, .int (nI (2 ^ P 0 0))), (3, .int (nI h)), (4, .int (nI (2 ^ P 0 0)))] []) →
    V mX8_tellDay E Ω 0 0 (SH u v) J L 24 [(0, .ref (Ω.1 + 63)), (1, .int (nI K)), (2, .int (nI (2 ^ P 0 0))), (3, .int (nI h)), (4, .int (nI s))] [] := by
  have h6 := hP.1.2
  have h12 := hP.2.2.1
  have h64 : 2 ^ P 0 0 ≤ 64 := Nat.pow_le_pow_right (n := 2) (j := 6) (by decide) h6
  intro n
  induction n with
  | zero =>
    intro s J hs hF hN hk
    have e : s = 2 ^ P 0 0 := by omega
    subst e
    refine V_iload 24 4 dX8_tellDay_24 rfl ?_
    refine V_iload_n 26 2 dX8_tellDay_26 rfl ?_
    refine V_cN_ge 27 81 dX8_tellDay_27 (by decide) (by omega) (by omega) (fun c => ?_) (fun c => ?_)
    · exact hk J hF (fun h' s' a' q1 q2 q3 q4 => hN h' s' a' q1 q2 q3 (by omega))
    · omega
  | succ n ih =>
    intro s J hs hF hN hk
    have hx0 : r_i (P 2 0) h s 0 < 106496 := by unfold r_i; omega
    have hx1 : r_i (P 2 0) h s 1 < 106496 := by unfold r_i; omega
    have eN : P 2 0 - P 2 0 = 0 := Nat.sub_self _
    refine V_iload 24 4 dX8_tellDay_24 rfl ?_
    refine V_iload_n 26 2 dX8_tellDay_26 rfl ?_
    refine V_cN_ge 27 81 dX8_tellDay_27 (by decide) (by omega) (by omega) (fun c => ?_) (fun c => ?_)
    · omega
    refine V_aload_n 30 0 dX8_tellDay_30 rfl ?_
    refine V_getR 31 flX8_100 dX8_tellDay_31 rfl ?_
    refine V_aload_n 34 0 dX8_tellDay_34 rfl ?_
    refine V_getR 35 flX8_7 dX8_tellDay_35 rfl ?_
    refine V_cst 38 1 dX8_tellDay_38 rfl ?_
    refine V_iald 39 dX8_tellDay_39 rfl (by omega) (by omega) ?_
    rw [hF 64 (by decide), hM.2.1]
    refine V_iload_n 40 3 dX8_tellDay_40 rfl ?_
    refine V_iload 41 4 dX8_tellDay_41 rfl ?_
    refine V_cst 43 0 dX8_tellDay_43 rfl ?_
    refine V_si 44 msX8_291 dX8_tellDay_44 (w_fit.mono (by omega) hE) (m_cellOf (d := d) (i := P 2 0) (h := h) (s := s) (a := 0) (by omega) (by omega) (by omega) (by decide)) rfl (Nat.le_of_ble_eq_true rfl) ?_
    rintro _ _ _ _ ⟨rfl, rfl, rfl, rfl⟩
    rw [show ((P 2 0 * 64 + h) * 64 + s) * 2 + 0 = r_i (P 2 0) h s 0 from rfl]
    refine V_ldcwN 47 1000000000 kcX8_301 dX8_tellDay_47 rfl ?_
    refine V_iast 50 dX8_tellDay_50 rfl (by omega) (by omega) ?_
    refine V_aload_n 51 0 dX8_tellDay_51 rfl ?_
    refine V_getR 52 flX8_100 dX8_tellDay_52 rfl ?_
    refine V_aload_n 55 0 dX8_tellDay_55 rfl ?_
    refine V_getR 56 flX8_7 dX8_tellDay_56 rfl ?_
    refine V_cst 59 1 dX8_tellDay_59 rfl ?_
    refine V_iald 60 dX8_tellDay_60 rfl (by omega) (by omega) ?_
    rw [w_put_ne _ 64 (by decide), hF 64 (by decide), hM.2.1]
    refine V_iload_n 61 3 dX8_tellDay_61 rfl ?_
    refine V_iload 62 4 dX8_tellDay_62 rfl ?_
    refine V_cst 64 1 dX8_tellDay_64 rfl ?_
    refine V_si 65 msX8_291 dX8_tellDay_65 (w_fit.mono (by omega) hE) (m_cellOf (d := d) (i := P 2 0) (h := h) (s := s) (a := 1) (by omega) (by omega) (by omega) (by decide)) rfl (Nat.le_of_ble_eq_true rfl) ?_
    rintro _ _ _ _ ⟨rfl, rfl, rfl, rfl⟩
    rw [show ((P 2 0 * 64 + h) * 64 + s) * 2 + 1 = r_i (P 2 0) h s 1 from rfl]
    refine V_aload_n 68 0 dX8_tellDay_68 rfl ?_
    refine V_getR 69 flX8_87 dX8_tellDay_69 rfl ?_
    refine V_iload_n 72 3 dX8_tellDay_72 rfl ?_
    refine V_iald 73 dX8_tellDay_73 rfl (by omega) (by omega) ?_
    rw [w_put_ne _ 88 (by decide), hF 88 (by decide), hf h hh]
    refine V_iast 74 dX8_tellDay_74 rfl (by omega) (by omega) ?_
    refine V_inc 75 4 _ [(0, _), (1, _), (2, _), (3, _), (4, _)] dX8_tellDay_75 rfl rfl rfl (by decide) rfl ?_
    refine V_goto 78 24 dX8_tellDay_78 (by decide) ?_
    have h1 : Ln P K si (r_p P ks) f (P 2 0) h s 1 (w_put J 92 (r_i (P 2 0) h s 0) 1000000000) := hN.put h64 hh (by omega) (by decide) (by rw [eN]; rfl)
    have h2 : Ln P K si (r_p P ks) f (P 2 0) h s 2 (w_put (w_put J 92 (r_i (P 2 0) h s 0) 1000000000) 92 (r_i (P 2 0) h s 1) (f h)) := h1.put h64 hh (by omega) (by decide) (by rw [eN]; rfl)
    exact ih (s + 1) _ (by omega) (fun q hq => by rw [w_put_ne _ _ hq, w_put_ne _ _ hq]; exact hF q hq) (fun h' s' a' q1 q2 q3 q4 => h2 h' s' a' q1 q2 q3 (by omega)) hk
theorem m_tellDay {I : w_I} (hP : s_POK P) (hKF : KF P si ks I) (hks : ks = 0 ∨ ks = 1) (hK64 : K < 64) (hsi : si < 64) (hm : m ≤ 500000) (hf0 : ∀ h, h < 2 ^ P 0 0 → I 88 h = f h) (hf : ∀ h, h < 2 ^ P 0 0 → f h = NVR ∨ f h ≤ m) : FnV Ω (d + 2) mX8_tellDay [.ref (Ω.1 + 63), .int (nI K)] (SH u v) I L (fun S' I' L' => S' = SH u v ∧ L = L' ∧ Lv P K si (r_p P ks) f 0 I' ∧ I' 63 42 = K ∧ FrB (w_put I 63 42 K) I') := by
  have h6 := hP.1.2
  have h12 := hP.2.2.1
  have h64 : 2 ^ P 0 0 ≤ 64 := Nat.pow_le_pow_right (n := 2) (j := 6) (by decide) h6
  refine FnR_of1 (d := d + 1) okX8_tellDay (Nat.le_of_ble_eq_true rfl) fun l z hE => ?_
  show V _ _ _ _ _ _ _ _ 0 [(0, _), (1, _)] []
  refine V_aload_n 0 0 dX8_tellDay_0 rfl ?_
  refine V_iload_n 1 1 dX8_tellDay_1 rfl ?_
  refine V_putI 2 flX8_298 ft_8_42 dX8_tellDay_2 rfl ?_
  refine V_cst 5 1 dX8_tellDay_5 rfl ?_
  refine V_aload_n 6 0 dX8_tellDay_6 rfl ?_
  refine V_getR 7 flX8_7 dX8_tellDay_7 rfl ?_
  refine V_cst 10 0 dX8_tellDay_10 rfl ?_
  refine V_iald 11 dX8_tellDay_11 rfl (by omega) (by omega) ?_
  have fo : ∀ i, i ≠ 63 → w_put I 63 42 K i = I i := fun i hi => w_put_ne _ _ hi
  have f42 : w_put I 63 42 K 63 42 = K := w_put_same _ _ _ _
  have hKB : KF P si ks (w_put I 63 42 K) := ⟨hKF.1.of (fun i _ _ => fo i (by omega)), by rw [w_put_other _ (Or.inr (by decide))]; exact hKF.2.1, by rw [w_put_other _ (Or.inr (by decide))]; exact hKF.2.2.1, fun j hj => by rw [fo 87 (by decide)]; exact hKF.2.2.2 j hj⟩
  have hfB : ∀ h, h < 2 ^ P 0 0 → w_put I 63 42 K 88 h = f h := fun h hh => by rw [fo 88 (by decide)]; exact hf0 h hh
  generalize w_put I 63 42 K = B at fo f42 hKB hfB hE ⊢
  have out : ∀ (n h : Nat) (J : w_I), h + n = 2 ^ P 0 0 → FrB B J → Ln P K si (r_p P ks) f (P 2 0) h 0 0 J → V mX8_tellDay (w_Er l (d + 1 + 1) 0 0 Ω (w_pv (fun S' I' L' => S' = SH u v ∧ L = L' ∧ Lv P K si (r_p P ks) f 0 I' ∧ I' 63 42 = K ∧ FrB B I')) z) Ω 0 0 (SH u v) J L 16 [(0, .ref (Ω.1 + 63)), (1, .int (nI K)), (2, .int (nI (2 ^ P 0 0))), (3, .int (nI h))] [] := by
    intro n
    induction n with
    | zero =>
      intro h J hh hF hN
      refine V_iload_n 16 3 dX8_tellDay_16 rfl ?_
      refine V_iload_n 17 2 dX8_tellDay_17 rfl ?_
      refine V_cN_ge 18 87 dX8_tellDay_18 (by decide) (by omega) (by omega) (fun c => ?_) (fun c => ?_)
      rotate_left
      · omega
      refine V_aload_n 87 0 dX8_tellDay_87 rfl ?_
      refine V_getR 88 flX8_7 dX8_tellDay_88 rfl ?_
      refine V_cst 91 1 dX8_tellDay_91 rfl ?_
      refine V_iald 92 dX8_tellDay_92 rfl (by omega) (by omega) ?_
      rw [hF 64 (by decide), hKB.1.2.1]
      refine V_cst 93 1 dX8_tellDay_93 rfl ?_
      refine V_subM 94 dX8_tellDay_94 (by omega) ?_
      refine V_istore_n 95 [(0, _), (1, _), (2, _), (3, _)] dX8_tellDay_95 (by decide) rfl ?_
      rw [m_1_nI (by omega)]
      refine td_i (d := d) (B := B) hE hP hKB hks f42 hK64 hsi hm hf (P 2 0) J (Nat.le_refl _) hF (fun i' q1 q2 h' s' a' q3 q4 q5 => ?_) (fun J' x g1 g2 => ?_)
      · have e : i' = P 2 0 := by omega
        subst e
        exact hN h' s' a' q3 q4 q5 (by omega)
      · exact V_ret 208 dX8_tellDay_208 rfl ⟨rfl, rfl, g2, by rw [g1 63 (by decide)]; exact f42, g1⟩
    | succ n ih =>
      intro h J hh hF hN
      refine V_iload_n 16 3 dX8_tellDay_16 rfl ?_
      refine V_iload_n 17 2 dX8_tellDay_17 rfl ?_
      refine V_cN_ge 18 87 dX8_tellDay_18 (by decide) (by omega) (by omega) (fun c => ?_) (fun c => ?_)
      · omega
      refine V_cst 21 0 dX8_tellDay_21 rfl ?_
      refine V_istore 22 [(0, _), (1, _), (2, _), (3, _), (4, _)] dX8_tellDay_22 (by decide) rfl ?_
      refine td_0 (d := d + 1) (B := B) hE hP hKB.1 hfB (by omega) (2 ^ P 0 0) 0 J (by omega) hF hN (fun J' g1 g2 => ?_)
      refine V_inc 81 3 _ [(0, _), (1, _), (2, _), (3, _), (4, _)] dX8_tellDay_81 rfl rfl rfl (by decide) rfl ?_
      refine V_sub [(0, _), (1, _), (2, _), (3, _)] [0, 1, 2, 3] rfl ?_
      refine V_goto 84 16 dX8_tellDay_84 (by decide) ?_
      refine V_sub [(0, _), (1, _), (2, _), (3, _)] [0, 1, 2, 3] rfl ?_
      exact ih (h + 1) J' (by omega) g1 g2
  rw [hKB.1.1]
  refine V_shl 12 dX8_tellDay_12 (by omega) ?_
  refine V_istore_n 13 [(0, _), (1, _), (2, _)] dX8_tellDay_13 (by decide) rfl ?_
  refine V_cst 14 0 dX8_tellDay_14 rfl ?_
  refine V_istore_n 15 [(0, _), (1, _), (2, _), (3, _)] dX8_tellDay_15 (by decide) rfl ?_
  rw [Nat.one_mul]
  exact out (2 ^ P 0 0) 0 B (by omega) (fun _ _ => rfl) (fun h' s' a' q1 q2 q3 q4 => by omega)
end
