def Yk (fr f : Nat → Nat) (hi y : Nat) : Prop := (y = NVR ∧ ∀ h, h ≠ 0 → h < hi → fr h < NVR → f h = NVR) ∨ ((∃ h, h ≠ 0 ∧ h < hi ∧ fr h < NVR ∧ f h < NVR ∧ y = fr h + f h) ∧ ∀ h, h ≠ 0 → h < hi → fr h < NVR → f h < NVR → y ≤ fr h + f h)
theorem Yk.no {fr f : Nat → Nat} {h y : Nat} (hy : Yk fr f h y) (hn : fr h < NVR → f h = NVR) : Yk fr f (h + 1) y := by
  rcases hy with ⟨e, a⟩ | ⟨⟨q, q1, q2, q3, q4, q5⟩, a⟩
  · refine Or.inl ⟨e, fun h' w1 w2 w3 => ?_⟩
    by_cases e : h' = h
    · rw [e] at w3 ⊢; exact hn w3
    · exact a h' w1 (by omega) w3
  · refine Or.inr ⟨⟨q, q1, by omega, q3, q4, q5⟩, fun h' w1 w2 w3 w4 => ?_⟩
    by_cases e : h' = h
    · rw [e] at w3 w4
      rw [hn w3] at w4
      exact absurd w4 (Nat.lt_irrefl _)
    · exact a h' w1 (by omega) w3 w4
theorem Yk.yes {fr f : Nat → Nat} {h y : Nat} (hy : Yk fr f h y) (h0 : h ≠ 0) (h1 : fr h < NVR) (h2 : f h < NVR) (h3 : fr h + f h < NVR) : Yk fr f (h + 1) (min y (fr h + f h)) := by
  rcases hy with ⟨rfl, a⟩ | ⟨⟨q, q1, q2, q3, q4, q5⟩, a⟩
  · rw [Nat.min_eq_right (by omega)]
    refine Or.inr ⟨⟨h, h0, by omega, h1, h2, rfl⟩, fun h' w1 w2 w3 w4 => ?_⟩
    by_cases e : h' = h
    · rw [e]; exact Nat.le_refl _
    · rw [a h' w1 (by omega) w3] at w4
      exact absurd w4 (Nat.lt_irrefl _)
  · refine Or.inr ⟨?_, fun h' w1 w2 w3 w4 => ?_⟩
    · rcases Nat.le_total y (fr h + f h) with w | w
      · rw [Nat.min_eq_left w]; exact ⟨q, q1, by omega, q3, q4, q5⟩
      · rw [Nat.min_eq_right w]; exact ⟨h, h0, by omega, h1, h2, rfl⟩
    · by_cases e : h' = h
      · rw [e]; exact Nat.min_le_right _ _
      · exact Nat.le_trans (Nat.min_le_left _ _) (a h' w1 (by omega) w3 w4)
theorem Yk.le {fr f : Nat → Nat} {hi y : Nat} (hy : Yk fr f hi y) (hb : ∀ h, h ≠ 0 → h < hi → fr h < NVR → f h < NVR → fr h + f h < NVR) : y ≤ NVR := by
  rcases hy with ⟨rfl, -⟩ | ⟨⟨q, q1, q2, q3, q4, rfl⟩, -⟩
  · exact Nat.le_refl _
  · exact Nat.le_of_lt (hb q q1 q2 q3 q4)
section
variable {Ω : w_O} {d u v : Nat} {L : w_L} {E : w_E} {P : w_R}
theorem tl_f0 {K da : Nat} (hP : s_POK P) : ∀ (n j : Nat) (J : w_I), j + n = 2 ^ P 0 0 →
    (∀ J', (∀ q, q < 2 ^ P 0 0 → J' 88 q = if j ≤ q then 0 else J 88 q) → (∀ i, i ≠ 88 → J' i = J i) → V mX8_tellLeast E Ω 0 0 (SH u v) J' L 37 [(0, .ref (Ω.1 + 63)), (1, .int (nI K)), (2, .int (nI da)), (3, .int (nI (2 ^ P 0 0))), (4, .int (nI (2 ^ P 0 0)))] []) →
    V mX8_tellLeast E Ω 0 0 (SH u v) J L 17 [(0, .ref (Ω.1 + 63)), (1, .int (nI K)), (2, .int (nI da)), (3, .int (nI (2 ^ P 0 0))), (4, .int (nI j))] [] := by
  have h6 := hP.1.2
  have h64 : 2 ^ P 0 0 ≤ 64 := Nat.pow_le_pow_right (n := 2) (j := 6) (by decide) h6
  intro n
  induction n with
  | zero =>
    intro j J hj hk
    have e : j = 2 ^ P 0 0 := by omega
    subst e
    refine V_iload 17 4 dX8_tellLeast_17 rfl ?_
    refine V_iload_n 19 3 dX8_tellLeast_19 rfl ?_
    refine V_cN_ge 20 37 dX8_tellLeast_20 (by decide) (by omega) (by omega) (fun c => ?_) (fun c => ?_)
    · exact hk J (fun q hq => by rw [if_neg (by omega)]) (fun _ _ => rfl)
    · omega
  | succ n ih =>
    intro j J hj hk
    refine V_iload 17 4 dX8_tellLeast_17 rfl ?_
    refine V_iload_n 19 3 dX8_tellLeast_19 rfl ?_
    refine V_cN_ge 20 37 dX8_tellLeast_20 (by decide) (by omega) (by omega) (fun c => ?_) (fun c => ?_)
    · omega
    refine V_aload_n 23 0 dX8_tellLeast_23 rfl ?_
    refine V_getR 24 flX8_87 dX8_tellLeast_24 rfl ?_
    refine V_iload 27 4 dX8_tellLeast_27 rfl ?_
    refine V_cst 29 0 dX8_tellLeast_29 rfl ?_
    refine V_iast 30 dX8_tellLeast_30 rfl (by omega) (by omega) ?_
    refine V_inc 31 4 _ [(0, _), (1, _), (2, _), (3, _), (4, _)] dX8_tellLeast_31 rfl rfl rfl (by decide) rfl ?_
    refine V_goto 34 17 dX8_tellLeast_34 (by decide) ?_
    refine ih (j + 1) _ (by omega) (fun J' h1 h2 => hk J' (fun q hq => ?_) (fun i hi => ?_))
    · refine lp_if (fun e => ?_) (fun e => ?_) (h1 q hq) rfl
      · rw [w_put_other _ (Or.inr e)]
      · rw [e, w_put_same]
    · rw [h2 i hi, w_put_ne _ _ hi]
theorem tl_cp {K da dd : Nat} (hP : s_POK P) : ∀ (n j : Nat) (J : w_I), j + n = 2 ^ P 0 0 →
    (∀ J', (∀ q, q < 2 ^ P 0 0 → J' 88 q = if j ≤ q then J 89 q else J 88 q) → (∀ i, i ≠ 88 → J' i = J i) → V mX8_tellLeast E Ω 0 0 (SH u v) J' L 195 [(0, .ref (Ω.1 + 63)), (1, .int (nI K)), (2, .int (nI da)), (3, .int (nI (2 ^ P 0 0))), (4, .int (nI dd)), (5, .int (nI (2 ^ P 0 0)))] []) →
    V mX8_tellLeast E Ω 0 0 (SH u v) J L 169 [(0, .ref (Ω.1 + 63)), (1, .int (nI K)), (2, .int (nI da)), (3, .int (nI (2 ^ P 0 0))), (4, .int (nI dd)), (5, .int (nI j))] [] := by
  have h6 := hP.1.2
  have h64 : 2 ^ P 0 0 ≤ 64 := Nat.pow_le_pow_right (n := 2) (j := 6) (by decide) h6
  intro n
  induction n with
  | zero =>
    intro j J hj hk
    have e : j = 2 ^ P 0 0 := by omega
    subst e
    refine V_iload 169 5 dX8_tellLeast_169 rfl ?_
    refine V_iload_n 171 3 dX8_tellLeast_171 rfl ?_
    refine V_cN_ge 172 195 dX8_tellLeast_172 (by decide) (by omega) (by omega) (fun c => ?_) (fun c => ?_)
    · exact hk J (fun q hq => by rw [if_neg (by omega)]) (fun _ _ => rfl)
    · omega
  | succ n ih =>
    intro j J hj hk
    refine V_iload 169 5 dX8_tellLeast_169 rfl ?_
    refine V_iload_n 171 3 dX8_tellLeast_171 rfl ?_
    refine V_cN_ge 172 195 dX8_tellLeast_172 (by decide) (by omega) (by omega) (fun c => ?_) (fun c => ?_)
    · omega
    refine V_aload_n 175 0 dX8_tellLeast_175 rfl ?_
    refine V_getR 176 flX8_87 dX8_tellLeast_176 rfl ?_
    refine V_iload 179 5 dX8_tellLeast_179 rfl ?_
    refine V_aload_n 181 0 dX8_tellLeast_181 rfl ?_
    refine V_getR 182 flX8_90 dX8_tellLeast_182 rfl ?_
    refine V_iload 185 5 dX8_tellLeast_185 rfl ?_
    refine V_iald 187 dX8_tellLeast_187 rfl (by omega) (by omega) ?_
    refine V_iast 188 dX8_tellLeast_188 rfl (by omega) (by omega) ?_
    refine V_inc 189 5 _ [(0, _), (1, _), (2, _), (3, _), (4, _), (5, _)] dX8_tellLeast_189 rfl rfl rfl (by decide) rfl ?_
    refine V_goto 192 169 dX8_tellLeast_192 (by decide) ?_
    refine ih (j + 1) _ (by omega) (fun J' h1 h2 => hk J' (fun q hq => ?_) (fun i hi => ?_))
    · refine lp_if2 ?_ (fun e => ?_) (fun e => ?_) (h1 q hq) rfl
      · rw [w_put_ne _ 89 (by decide)]
      · rw [w_put_other _ (Or.inr e)]
      · rw [e, w_put_same]
    · rw [h2 i hi, w_put_ne _ _ hi]
/-- the sets' sums of a day, from h on -/
theorem tl_in {K da dd k : Nat} {B : w_I} (hE : w_fit d E) (hP : s_POK P) (hk : k < 2 ^ P 0 0) (h97 : B 94 k = 0 ∨ B 94 k = 1) (hfr : B 94 k = 1 → ∀ h, h < 64 → B 93 (64 * k + h) ≤ NVR) (hf : ∀ h, h < 2 ^ P 0 0 → B 88 h ≤ NVR) (hb : B 94 k = 1 → ∀ h, h ≠ 0 → h < 2 ^ P 0 0 → B 93 (64 * k + h) < NVR → B 88 h < NVR → B 93 (64 * k + h) + B 88 h < NVR) : ∀ (n h : Nat) (J : w_I), 1 ≤ h → h + n = 2 ^ P 0 0 → (∀ i, i ≠ 89 → J i = B i) → (B 94 k = 1 → Yk (fun h => B 93 (64 * k + h)) (B 88) h (J 89 k)) → (B 94 k = 0 → J 89 k = NVR) →
    (∀ J' x, (∀ i, i ≠ 89 → J' i = B i) → (∀ q, q ≠ k → J' 89 q = J 89 q) → (B 94 k = 1 → Yk (fun h => B 93 (64 * k + h)) (B 88) (2 ^ P 0 0) (J' 89 k)) → (B 94 k = 0 → J' 89 k = NVR) → V mX8_tellLeast E Ω 0 0 (SH u v) J' L 160 [(0, .ref (Ω.1 + 63)), (1, .int (nI K)), (2, .int (nI da)), (3, .int (nI (2 ^ P 0 0))), (4, .int (nI dd)), (5, .int (nI k)), (6, .int (nI x))] []) →
    V mX8_tellLeast E Ω 0 0 (SH u v) J L 68 [(0, .ref (Ω.1 + 63)), (1, .int (nI K)), (2, .int (nI da)), (3, .int (nI (2 ^ P 0 0))), (4, .int (nI dd)), (5, .int (nI k)), (6, .int (nI h))] [] := by
  have h6 := hP.1.2
  have h64 : 2 ^ P 0 0 ≤ 64 := Nat.pow_le_pow_right (n := 2) (j := 6) (by decide) h6
  have hNV : NVR = 1000000000 := rfl
  intro n
  induction n with
  | zero =>
    intro h J h1 hh hJ hy h0 hkk
    have e : h = 2 ^ P 0 0 := by omega
    subst e
    refine V_iload 68 6 dX8_tellLeast_68 rfl ?_
    refine V_iload_n 70 3 dX8_tellLeast_70 rfl ?_
    refine V_cN_ge 71 160 dX8_tellLeast_71 (by decide) (by omega) (by omega) (fun c => ?_) (fun c => ?_)
    · exact hkk J _ hJ (fun _ _ => rfl) hy h0
    · omega
  | succ n ih =>
    intro h J h1 hh hJ hy h0 hkk
    refine V_iload 68 6 dX8_tellLeast_68 rfl ?_
    refine V_iload_n 70 3 dX8_tellLeast_70 rfl ?_
    refine V_cN_ge 71 160 dX8_tellLeast_71 (by decide) (by omega) (by omega) (fun c => ?_) (fun c => ?_)
    · omega
    refine V_aload_n 74 0 dX8_tellLeast_74 rfl ?_
    refine V_getR 75 flX8_106 dX8_tellLeast_75 rfl ?_
    refine V_iload 78 5 dX8_tellLeast_78 rfl ?_
    refine V_zald 80 dX8_tellLeast_80 rfl (by omega) (by omega) ?_
    rw [hJ 94 (by decide)]
    rcases h97 with q | q
    · rw [q]
      refine V_zN_eq 81 160 dX8_tellLeast_81 (by decide) (by omega) (fun c1 => ?_) (fun c1 => ?_)
      · exact hkk J _ hJ (fun _ _ => rfl) (fun w => by omega) h0
      · exact absurd rfl c1
    · rw [q]
      have hfk := hfr q h (by omega)
      have hfh := hf h (by omega)
      refine V_zN_eq 81 160 dX8_tellLeast_81 (by decide) (by omega) (fun c1 => ?_) (fun c1 => ?_)
      · exact absurd c1 (by decide)
      refine V_aload_n 84 0 dX8_tellLeast_84 rfl ?_
      refine V_getR 85 flX8_103 dX8_tellLeast_85 rfl ?_
      refine V_bip 88 64 dX8_tellLeast_88 rfl ?_
      refine V_iload 90 5 dX8_tellLeast_90 rfl ?_
      refine V_mul 92 dX8_tellLeast_92 ?_
      refine V_iload 93 6 dX8_tellLeast_93 rfl ?_
      refine V_add 95 dX8_tellLeast_95 ?_
      refine V_iald 96 dX8_tellLeast_96 rfl (by omega) (by omega) ?_
      rw [hJ 93 (by decide)]
      refine V_ldcwN 97 1000000000 kcX8_301 dX8_tellLeast_97 rfl ?_
      refine V_cN_ge 100 154 dX8_tellLeast_100 (by decide) (by omega) (by omega) (fun c2 => ?_) (fun c2 => ?_)
      · refine V_inc 154 6 _ [(0, _), (1, _), (2, _), (3, _), (4, _), (5, _), (6, _)] dX8_tellLeast_154 rfl rfl rfl (by decide) rfl ?_
        refine V_goto 157 68 dX8_tellLeast_157 (by decide) ?_
        exact ih (h + 1) J (by omega) (by omega) hJ (fun w => (hy w).no (fun e => by omega)) h0 hkk
      refine V_aload_n 103 0 dX8_tellLeast_103 rfl ?_
      refine V_getR 104 flX8_87 dX8_tellLeast_104 rfl ?_
      refine V_iload 107 6 dX8_tellLeast_107 rfl ?_
      refine V_iald 109 dX8_tellLeast_109 rfl (by omega) (by omega) ?_
      rw [hJ 88 (by decide)]
      refine V_ldcwN 110 1000000000 kcX8_301 dX8_tellLeast_110 rfl ?_
      refine V_cN_ge 113 154 dX8_tellLeast_113 (by decide) (by omega) (by omega) (fun c3 => ?_) (fun c3 => ?_)
      · refine V_inc 154 6 _ [(0, _), (1, _), (2, _), (3, _), (4, _), (5, _), (6, _)] dX8_tellLeast_154 rfl rfl rfl (by decide) rfl ?_
        refine V_goto 157 68 dX8_tellLeast_157 (by decide) ?_
        exact ih (h + 1) J (by omega) (by omega) hJ (fun w => (hy w).no (fun e => by omega)) h0 hkk
      have hsum := hb q h (by omega) (by omega) (by omega) (by omega)
      have hyk : J 89 k ≤ NVR := (hy q).le (fun h' w1 w2 w3 w4 => hb q h' w1 (by omega) w3 w4)
      refine V_aload_n 116 0 dX8_tellLeast_116 rfl ?_
      refine V_getR 117 flX8_90 dX8_tellLeast_117 rfl ?_
      refine V_iload 120 5 dX8_tellLeast_120 rfl ?_
      refine V_aload_n 122 0 dX8_tellLeast_122 rfl ?_
      refine V_getR 123 flX8_90 dX8_tellLeast_123 rfl ?_
      refine V_iload 126 5 dX8_tellLeast_126 rfl ?_
      refine V_iald 128 dX8_tellLeast_128 rfl (by omega) (by omega) ?_
      refine V_aload_n 129 0 dX8_tellLeast_129 rfl ?_
      refine V_getR 130 flX8_103 dX8_tellLeast_130 rfl ?_
      refine V_bip 133 64 dX8_tellLeast_133 rfl ?_
      refine V_iload 135 5 dX8_tellLeast_135 rfl ?_
      refine V_mul 137 dX8_tellLeast_137 ?_
      refine V_iload 138 6 dX8_tellLeast_138 rfl ?_
      refine V_add 140 dX8_tellLeast_140 ?_
      refine V_iald 141 dX8_tellLeast_141 rfl (by omega) (by omega) ?_
      rw [hJ 93 (by decide)]
      refine V_aload_n 142 0 dX8_tellLeast_142 rfl ?_
      refine V_getR 143 flX8_87 dX8_tellLeast_143 rfl ?_
      refine V_iload 146 6 dX8_tellLeast_146 rfl ?_
      refine V_iald 148 dX8_tellLeast_148 rfl (by omega) (by omega) ?_
      rw [hJ 88 (by decide)]
      refine V_add 149 dX8_tellLeast_149 ?_
      refine V_mini 150 (by omega) (by omega) mnX8_164 dX8_tellLeast_150 (w_fit.mono (by omega) hE) (Nat.le_of_ble_eq_true rfl) ?_
      refine V_iast 153 dX8_tellLeast_153 rfl (by omega) (by omega) ?_
      refine V_inc 154 6 _ [(0, _), (1, _), (2, _), (3, _), (4, _), (5, _), (6, _)] dX8_tellLeast_154 rfl rfl rfl (by decide) rfl ?_
      refine V_goto 157 68 dX8_tellLeast_157 (by decide) ?_
      refine ih (h + 1) _ (by omega) (by omega) (fun i hi => by rw [w_put_ne _ _ hi]; exact hJ i hi) (fun w => ?_) (fun w => by omega) (fun J' x a b e f => hkk J' x a (fun q hq => by rw [b q hq, w_put_other _ (Or.inr hq)]) e f)
      rw [w_put_same]
      exact (hy w).yes (by omega) (by omega) (by omega) hsum
theorem tl_out {K da dd : Nat} {B : w_I} (hE : w_fit d E) (hP : s_POK P) (h97 : ∀ k, k < 64 → B 94 k = 0 ∨ B 94 k = 1) (hfr : ∀ k, k < 64 → B 94 k = 1 → ∀ h, h < 64 → B 93 (64 * k + h) ≤ NVR) (hf : ∀ h, h < 2 ^ P 0 0 → B 88 h ≤ NVR) (hb : ∀ k, k < 64 → B 94 k = 1 → ∀ h, h ≠ 0 → h < 2 ^ P 0 0 → B 93 (64 * k + h) < NVR → B 88 h < NVR → B 93 (64 * k + h) + B 88 h < NVR) : ∀ (n k : Nat) (J : w_I), k + n = 2 ^ P 0 0 → (∀ i, i ≠ 89 → J i = B i) → (∀ q, q < k → (B 94 q = 1 → Yk (fun h => B 93 (64 * q + h)) (B 88) (2 ^ P 0 0) (J 89 q)) ∧ (B 94 q = 0 → J 89 q = NVR)) →
    (∀ J', (∀ i, i ≠ 89 → J' i = B i) → (∀ q, q < 2 ^ P 0 0 → (B 94 q = 1 → Yk (fun h => B 93 (64 * q + h)) (B 88) (2 ^ P 0 0) (J' 89 q)) ∧ (B 94 q = 0 → J' 89 q = NVR)) → V mX8_tellLeast E Ω 0 0 (SH u v) J' L 166 [(0, .ref (Ω.1 + 63)), (1, .int (nI K)), (2, .int (nI da)), (3, .int (nI (2 ^ P 0 0))), (4, .int (nI dd)), (5, .int (nI (2 ^ P 0 0)))] []) →
    V mX8_tellLeast E Ω 0 0 (SH u v) J L 49 [(0, .ref (Ω.1 + 63)), (1, .int (nI K)), (2, .int (nI da)), (3, .int (nI (2 ^ P 0 0))), (4, .int (nI dd)), (5, .int (nI k))] [] := by
  have h6 := hP.1.2
  have h64 : 2 ^ P 0 0 ≤ 64 := Nat.pow_le_pow_right (n := 2) (j := 6) (by decide) h6
  have hpos : 1 ≤ 2 ^ P 0 0 := Nat.one_le_two_pow
  have hNV : NVR = 1000000000 := rfl
  intro n
  induction n with
  | zero =>
    intro k J hk hJ hq hkk
    have e : k = 2 ^ P 0 0 := by omega
    subst e
    refine V_iload 49 5 dX8_tellLeast_49 rfl ?_
    refine V_iload_n 51 3 dX8_tellLeast_51 rfl ?_
    refine V_cN_ge 52 166 dX8_tellLeast_52 (by decide) (by omega) (by omega) (fun c => ?_) (fun c => ?_)
    · exact hkk J hJ hq
    · omega
  | succ n ih =>
    intro k J hk hJ hq hkk
    refine V_iload 49 5 dX8_tellLeast_49 rfl ?_
    refine V_iload_n 51 3 dX8_tellLeast_51 rfl ?_
    refine V_cN_ge 52 166 dX8_tellLeast_52 (by decide) (by omega) (by omega) (fun c => ?_) (fun c => ?_)
    · omega
    refine V_aload_n 55 0 dX8_tellLeast_55 rfl ?_
    refine V_getR 56 flX8_90 dX8_tellLeast_56 rfl ?_
    refine V_iload 59 5 dX8_tellLeast_59 rfl ?_
    refine V_ldcwN 61 1000000000 kcX8_301 dX8_tellLeast_61 rfl ?_
    refine V_iast 64 dX8_tellLeast_64 rfl (by omega) (by omega) ?_
    refine V_cst 65 1 dX8_tellLeast_65 rfl ?_
    refine V_istore 66 [(0, _), (1, _), (2, _), (3, _), (4, _), (5, _), (6, _)] dX8_tellLeast_66 (by decide) rfl ?_
    refine tl_in (B := B) hE hP (by omega) (h97 k (by omega)) (hfr k (by omega)) hf (hb k (by omega)) (2 ^ P 0 0 - 1) 1 _ (by omega) (by omega) (fun i hi => by rw [w_put_ne _ _ hi]; exact hJ i hi) (fun w => ?_) (fun w => w_put_same _ _ _ _) (fun J' x a b e f => ?_)
    · rw [w_put_same]
      exact Or.inl ⟨rfl, fun h' w1 w2 => by omega⟩
    · refine V_inc 160 5 _ [(0, _), (1, _), (2, _), (3, _), (4, _), (5, _), (6, _)] dX8_tellLeast_160 rfl rfl rfl (by decide) rfl ?_
      refine V_sub [(0, _), (1, _), (2, _), (3, _), (4, _), (5, _)] [0, 1, 2, 3, 4, 5] rfl ?_
      refine V_goto 163 49 dX8_tellLeast_163 (by decide) ?_
      refine V_sub [(0, _), (1, _), (2, _), (3, _), (4, _), (5, _)] [0, 1, 2, 3, 4, 5] rfl ?_
      refine ih (k + 1) J' (by omega) a (fun q w => ?_) hkk
      by_cases e2 : q = k
      · rw [e2]; exact ⟨e, f⟩
      · rw [b q e2, w_put_other _ (Or.inr e2)]
        exact hq q (by omega)
theorem m_tellLeast {I : w_I} {K si ks da : Nat} {W : Nat → Nat} (hP : s_POK P) (hKF : KF P si ks I) (hks : ks = 0 ∨ ks = 1) (hsi : si < 64) (hK : K < 2 ^ P 0 0) (hMS : MS I) (h97 : ∀ k, k < 64 → I 94 k = 0) (hda : da ≤ 399) (hS : I 63 52 + 832 < 2000000000) (hW : r_W si (r_p P ks) W (P 0 0)) : FnV Ω (d + 68) mX8_tellLeast [.ref (Ω.1 + 63), .int (nI K), .int (nI da)] (SH u v) I L (fun S' I' L' => S' = SH u v ∧ L = L' ∧ KF P si ks I' ∧ MS I' ∧ I' 63 52 ≤ I 63 52 + 832 ∧ FO P K si (r_p P ks) I' ∧ Cl P K I' ∧ (∀ k, k < 2 ^ P 0 0 → (I' 88 k = NVR ∨ I' 88 k ≤ 1188 * da) ∧ (I' 94 k = 1 → k ≠ 0 → RF P W da k (I' 88 k))) ∧ FrK I I') := by
  have h6 := hP.1.2
  have h12 := hP.2.2.1
  have h64 : 2 ^ P 0 0 ≤ 64 := Nat.pow_le_pow_right (n := 2) (j := 6) (by decide) h6
  have hpos : 1 ≤ 2 ^ P 0 0 := Nat.one_le_two_pow
  have hNV : NVR = 1000000000 := rfl
  refine FnR_of1 (d := d + 67) okX8_tellLeast (Nat.le_of_ble_eq_true rfl) fun l z hE => ?_
  show V _ _ _ _ _ _ _ _ 0 [(0, _), (1, _), (2, _)] []
  have hc0 : c_n (I 94) 64 = 0 := by
    have : ∀ n, n ≤ 64 → c_n (I 94) n = 0 := by
      intro n
      induction n with
      | zero => intro _; rfl
      | succ n ih => intro hn; rw [c_n_succ, ih (by omega), h97 n (by omega), if_neg (by decide)]
    exact this 64 (Nat.le_refl _)
  refine V_aload_n 0 0 dX8_tellLeast_0 rfl ?_
  refine V_iload_n 1 1 dX8_tellLeast_1 rfl ?_
  refine V_vv 2 mvX8_331 dX8_tellLeast_2 ⟨_, _, _, rfl, rfl, rfl⟩ (w_fit.mono (by omega) hE) (m_reach (d := d) (si := si) (ks := ks) hP hks hsi 64 K I (by omega) hK (h97 K (by omega)) hKF hMS (fun k hk => Or.inl (h97 k hk)) (by rw [hc0]; omega)) rfl (Nat.le_of_ble_eq_true rfl) ?_
  rintro _ B _ ⟨rfl, rfl, q1, q2, q3, q4, q5, q6, q7, q8⟩
  have hcB := c_n_le (B 94) 64
  have hSB : B 63 52 ≤ I 63 52 + 832 := by rw [hc0] at q7; omega
  have hCl : ∀ k, k < 64 → B 94 k = 1 → Cl P k B := fun k hk e => by
    rcases q6 k hk e with w | w
    · rw [h97 k hk] at w; exact absurd w (by decide)
    · exact w
  have hFO : ∀ k, k < 64 → B 94 k = 1 → FO P k si (r_p P ks) B := fun k hk e => by
    rcases q3 k hk with w | w
    · rw [e] at w; exact absurd w (by decide)
    · exact w.2
  have h01 : ∀ k, k < 64 → B 94 k = 0 ∨ B 94 k = 1 := fun k hk => by
    rcases q3 k hk with w | w
    · exact Or.inl w
    · exact Or.inr w.1
  have hle : ∀ k, k < 64 → B 94 k = 1 → ∀ h, h < 64 → B 93 (64 * k + h) ≤ NVR := fun k hk e h hh => (hFO k hk e).le hP (r_p_le hP) hh
  have day : ∀ (n dd : Nat) (J : w_I), dd + n = da → (∀ i, i ≠ 88 → i ≠ 89 → J i = B i) → (∀ k, k < 2 ^ P 0 0 → (J 88 k = NVR ∨ J 88 k ≤ 1188 * dd) ∧ (B 94 k = 1 → k ≠ 0 → RF P W dd k (J 88 k))) → V mX8_tellLeast (w_Er l (d + 67 + 1) 0 0 Ω (w_pv (fun S' I' L' => S' = SH u v ∧ L = L' ∧ KF P si ks I' ∧ MS I' ∧ I' 63 52 ≤ I 63 52 + 832 ∧ FO P K si (r_p P ks) I' ∧ Cl P K I' ∧ (∀ k, k < 2 ^ P 0 0 → (I' 88 k = NVR ∨ I' 88 k ≤ 1188 * da) ∧ (I' 94 k = 1 → k ≠ 0 → RF P W da k (I' 88 k))) ∧ FrK I I')) z) Ω 0 0 (SH u v) J L 40 [(0, .ref (Ω.1 + 63)), (1, .int (nI K)), (2, .int (nI da)), (3, .int (nI (2 ^ P 0 0))), (4, .int (nI dd))] [] := by
    intro n
    induction n with
    | zero =>
      intro dd J hdd hJ hF
      have e : dd = da := by omega
      subst e
      refine V_iload 40 4 dX8_tellLeast_40 rfl ?_
      refine V_iload_n 42 2 dX8_tellLeast_42 rfl ?_
      refine V_cN_ge 43 201 dX8_tellLeast_43 (by decide) (by omega) (by omega) (fun c => ?_) (fun c => ?_)
      rotate_left
      · omega
      have fr : FrK I J := q8.trans ⟨fun i w1 w2 => hJ i (by omega) (by omega), fun j _ => by rw [hJ 63 (by decide) (by decide)]⟩
      refine V_ret 201 dX8_tellLeast_201 rfl ⟨rfl, rfl, ⟨fr.mp hKF.1, ?_, ?_, fun j hj => ?_⟩, q2.of (by rw [hJ 63 (by decide) (by decide)]) (hJ 97 (by decide) (by decide)), by rw [hJ 63 (by decide) (by decide)]; exact hSB, ?_, ?_, fun k hk => ?_, fr⟩
      · rw [hJ 63 (by decide) (by decide)]; exact q1.2.1
      · rw [hJ 63 (by decide) (by decide)]; exact q1.2.2.1
      · rw [hJ 87 (by decide) (by decide)]; exact q1.2.2.2 j hj
      · unfold FO; rw [hJ 93 (by decide) (by decide)]; exact hFO K (by omega) q5
      · unfold Cl; rw [hJ 93 (by decide) (by decide), hJ 94 (by decide) (by decide)]; exact hCl K (by omega) q5
      · rw [hJ 94 (by decide) (by decide)]; exact hF k hk
    | succ n ih =>
      intro dd J hdd hJ hF
      have hb : ∀ k, k < 64 → J 94 k = 1 → ∀ h, h ≠ 0 → h < 2 ^ P 0 0 → J 93 (64 * k + h) < NVR → J 88 h < NVR → J 93 (64 * k + h) + J 88 h < NVR := by
        intro k hk e h w1 w2 w3 w4
        rw [hJ 94 (by decide) (by decide)] at e
        rw [hJ 93 (by decide) (by decide)] at w3 ⊢
        have e2 := hCl k hk e h (by omega) w2 w3
        rcases (hFO k hk e h (by omega)).1 with q | ⟨s, r, hR⟩
        · omega
        · obtain ⟨-, -, -, -, b5, -⟩ := rR_b hP (r_p_le hP) (P 2 0) (Nat.le_refl _) _ _ _ _ _ hR
          rcases (hF h w2).1 with q | q
          · omega
          · omega
      refine V_iload 40 4 dX8_tellLeast_40 rfl ?_
      refine V_iload_n 42 2 dX8_tellLeast_42 rfl ?_
      refine V_cN_ge 43 201 dX8_tellLeast_43 (by decide) (by omega) (by omega) (fun c => ?_) (fun c => ?_)
      · omega
      refine V_cst 46 0 dX8_tellLeast_46 rfl ?_
      refine V_istore 47 [(0, _), (1, _), (2, _), (3, _), (4, _), (5, _)] dX8_tellLeast_47 (by decide) rfl ?_
      refine tl_out (d := d + 67) (B := J) hE hP (fun k hk => by rw [hJ 94 (by decide) (by decide)]; exact h01 k hk) (fun k hk e h hh => ?_) (fun h hh => by rcases (hF h hh).1 with q | q <;> omega) hb (2 ^ P 0 0) 0 J (by omega) (fun _ _ => rfl) (fun q hq => absurd hq (Nat.not_lt_zero _)) (fun J2 g1 g2 => ?_)
      · rw [hJ 94 (by decide) (by decide)] at e
        rw [hJ 93 (by decide) (by decide)]
        exact hle k hk e h hh
      refine V_cst 166 0 dX8_tellLeast_166 rfl ?_
      refine V_istore 167 [(0, _), (1, _), (2, _), (3, _), (4, _), (5, _)] dX8_tellLeast_167 (by decide) rfl ?_
      refine tl_cp hP (2 ^ P 0 0) 0 J2 (by omega) (fun J3 e1 e2 => ?_)
      refine V_inc 195 4 _ [(0, _), (1, _), (2, _), (3, _), (4, _), (5, _)] dX8_tellLeast_195 rfl rfl rfl (by decide) rfl ?_
      refine V_sub [(0, _), (1, _), (2, _), (3, _), (4, _)] [0, 1, 2, 3, 4] rfl ?_
      refine V_goto 198 40 dX8_tellLeast_198 (by decide) ?_
      refine V_sub [(0, _), (1, _), (2, _), (3, _), (4, _)] [0, 1, 2, 3, 4] rfl ?_
      refine ih (dd + 1) J3 (by omega) (fun i w1 w2 => by rw [e2 i w1, g1 i w2]; exact hJ i w1 w2) (fun k hk => ?_)
      rw [e1 k hk, if_pos (Nat.zero_le _)]
      obtain ⟨y1, y0⟩ := g2 k hk
      rw [hJ 94 (by decide) (by decide)] at y1 y0
      have hk64 : k < 64 := by omega
      rcases h01 k hk64 with w | w
      · rw [y0 w]
        exact ⟨Or.inl rfl, fun w2 => by omega⟩
      · have hY := y1 w
        refine ⟨?_, fun _ _ => ?_⟩
        · rcases hY with ⟨q, -⟩ | ⟨⟨h, w1, w2, w3, w4, q⟩, -⟩
          · exact Or.inl q
          · right
            have w3 : J 93 (64 * k + h) < NVR := w3
            have q : J2 89 k = J 93 (64 * k + h) + J 88 h := q
            rw [hJ 93 (by decide) (by decide)] at w3 q
            rcases (hFO k hk64 w h (by omega)).1 with q2 | ⟨s, r, hR⟩
            · omega
            · obtain ⟨-, -, -, -, b5, -⟩ := rR_b hP (r_p_le hP) (P 2 0) (Nat.le_refl _) _ _ _ _ _ hR
              rcases (hF h w2).1 with q3 | q3
              · omega
              · omega
        refine RF.next (fr := fun h => J 93 (64 * k + h)) (f := J 88) hP (r_p_le hP) hW hk (by omega) (fun h hh => ?_) (fun h w1 w2 w3 => ?_) hY
        · rw [hJ 93 (by decide) (by decide)]
          exact hFO k hk64 w h (by omega)
        · rw [hJ 93 (by decide) (by decide)] at w3
          exact (hF h w2).2 (hCl k hk64 w h (by omega) w2 w3) w1
  refine V_cst 5 1 dX8_tellLeast_5 rfl ?_
  refine V_aload_n 6 0 dX8_tellLeast_6 rfl ?_
  refine V_getR 7 flX8_7 dX8_tellLeast_7 rfl ?_
  refine V_cst 10 0 dX8_tellLeast_10 rfl ?_
  refine V_iald 11 dX8_tellLeast_11 rfl (by omega) (by omega) ?_
  rw [q1.1.1]
  refine V_shl 12 dX8_tellLeast_12 (by omega) ?_
  refine V_istore_n 13 [(0, _), (1, _), (2, _), (3, _)] dX8_tellLeast_13 (by decide) rfl ?_
  refine V_cst 14 0 dX8_tellLeast_14 rfl ?_
  refine V_istore 15 [(0, _), (1, _), (2, _), (3, _), (4, _)] dX8_tellLeast_15 (by decide) rfl ?_
  rw [Nat.one_mul]
  refine tl_f0 hP (2 ^ P 0 0) 0 B (by omega) (fun J1 a1 a2 => ?_)
  refine V_cst 37 0 dX8_tellLeast_37 rfl ?_
  refine V_istore 38 [(0, _), (1, _), (2, _), (3, _), (4, _)] dX8_tellLeast_38 (by decide) rfl ?_
  refine day da 0 J1 (by omega) (fun i w1 _ => a2 i w1) (fun k hk => ?_)
  rw [a1 k hk, if_pos (Nat.zero_le _)]
  refine ⟨Or.inr (Nat.zero_le _), fun _ hne => Or.inr ⟨Nat.zero_le _, ?_, fun x _ => by rw [Nat.zero_mul]; exact Nat.zero_le _⟩⟩
  obtain ⟨x, hx⟩ := Nat.exists_testBit_of_ne_zero hne
  exact ⟨x, hx, by rw [Nat.zero_mul]; rfl⟩
end
