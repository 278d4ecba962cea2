section
variable {Ω : w_O} {d u v : Nat} {L : w_L} {E : w_E} {P : w_R}
theorem df_l {K si mo : Nat} (hP : s_POK P) (hK : K < 64) : ∀ (n j : Nat) (J : w_I), j + n = 2 ^ P 0 0 →
    (∀ J', (∀ q, q < 2 ^ P 0 0 → J' 88 q = if j ≤ q then (if q = K then 1 else 0) else J 88 q) → (∀ i, i ≠ 88 → J' i = J i) → V mX8_daysOf E Ω 0 0 (SH u v) J' L 55 [(0, .ref (Ω.1 + 63)), (1, .int (nI K)), (2, .int (nI si)), (3, .int (nI mo)), (4, .int (nI (2 ^ P 0 0))), (5, .int (nI (2 ^ P 0 0)))] []) →
    V mX8_daysOf E Ω 0 0 (SH u v) J L 24 [(0, .ref (Ω.1 + 63)), (1, .int (nI K)), (2, .int (nI si)), (3, .int (nI mo)), (4, .int (nI (2 ^ P 0 0))), (5, .int (nI j))] [] := by
  have h6 := hP.1.2
  have h64 : 2 ^ P 0 0 ≤ 64 := Nat.pow_le_pow_right (n := 2) (j := 6) (by decide) h6
  intro n
  induction n with
  | zero =>
    intro j J hj hk
    have e : j = 2 ^ P 0 0 := by omega
    subst e
    refine V_iload 24 5 dX8_daysOf_24 rfl ?_
    refine V_iload 26 4 dX8_daysOf_26 rfl ?_
    refine V_cN_ge 28 55 dX8_daysOf_28 (by decide) (by omega) (by omega) (fun c => ?_) (fun c => ?_)
    · exact hk J (fun q hq => by rw [if_neg (by omega)]) (fun _ _ => rfl)
    · omega
  | succ n ih =>
    intro j J hj hk
    have k48 : ∀ x, x = (if j = K then 1 else 0) → V mX8_daysOf E Ω 0 0 (SH u v) J L 48 [(0, .ref (Ω.1 + 63)), (1, .int (nI K)), (2, .int (nI si)), (3, .int (nI mo)), (4, .int (nI (2 ^ P 0 0))), (5, .int (nI j))] [.int (nI x), .int (nI j), .ref (Ω.1 + 88)] := by
      intro x hx
      refine V_iast 48 dX8_daysOf_48 rfl (by omega) (by omega) ?_
      refine V_inc 49 5 _ [(0, _), (1, _), (2, _), (3, _), (4, _), (5, _)] dX8_daysOf_49 rfl rfl rfl (by decide) rfl ?_
      refine V_goto 52 24 dX8_daysOf_52 (by decide) ?_
      refine ih (j + 1) _ (by omega) (fun J' h1 h2 => hk J' (fun q hq => ?_) (fun i hi => ?_))
      · refine lp_if (fun e => ?_) (fun e => ?_) (h1 q hq) rfl
        · rw [w_put_other _ (Or.inr e)]
        · rw [e, w_put_same, hx]
      · rw [h2 i hi, w_put_ne _ _ hi]
    refine V_iload 24 5 dX8_daysOf_24 rfl ?_
    refine V_iload 26 4 dX8_daysOf_26 rfl ?_
    refine V_cN_ge 28 55 dX8_daysOf_28 (by decide) (by omega) (by omega) (fun c => ?_) (fun c => ?_)
    · omega
    refine V_aload_n 31 0 dX8_daysOf_31 rfl ?_
    refine V_getR 32 flX8_87 dX8_daysOf_32 rfl ?_
    refine V_iload 35 5 dX8_daysOf_35 rfl ?_
    refine V_iload 37 5 dX8_daysOf_37 rfl ?_
    refine V_iload_n 39 1 dX8_daysOf_39 rfl ?_
    refine V_cN_ne 40 47 dX8_daysOf_40 (by decide) (by omega) (by omega) (fun c1 => ?_) (fun c1 => ?_)
    · refine V_cst 47 0 dX8_daysOf_47 rfl ?_
      exact k48 0 (by rw [if_neg c1])
    · refine V_cst 43 1 dX8_daysOf_43 rfl ?_
      refine V_goto 44 48 dX8_daysOf_44 (by decide) ?_
      exact k48 1 (by rw [if_pos c1])
theorem dn_l {K si mo dd so : Nat} (hP : s_POK P) : ∀ (n j : Nat) (J : w_I), j + n = 2 ^ P 0 0 →
    (∀ J', (∀ q, q < 2 ^ P 0 0 → J' 89 q = if j ≤ q then 0 else J 89 q) → (∀ i, i ≠ 89 → J' i = J i) → V mX8_daysOf E Ω 0 0 (SH u v) J' L 91 [(0, .ref (Ω.1 + 63)), (1, .int (nI K)), (2, .int (nI si)), (3, .int (nI mo)), (4, .int (nI (2 ^ P 0 0))), (5, .int (nI dd)), (6, .int (nI so)), (7, .int (nI (2 ^ P 0 0)))] []) →
    V mX8_daysOf E Ω 0 0 (SH u v) J L 70 [(0, .ref (Ω.1 + 63)), (1, .int (nI K)), (2, .int (nI si)), (3, .int (nI mo)), (4, .int (nI (2 ^ P 0 0))), (5, .int (nI dd)), (6, .int (nI so)), (7, .int (nI j))] [] := by
  have h6 := hP.1.2
  have h64 : 2 ^ P 0 0 ≤ 64 := Nat.pow_le_pow_right (n := 2) (j := 6) (by decide) h6
  intro n
  induction n with
  | zero =>
    intro j J hj hk
    have e : j = 2 ^ P 0 0 := by omega
    subst e
    refine V_iload 70 7 dX8_daysOf_70 rfl ?_
    refine V_iload 72 4 dX8_daysOf_72 rfl ?_
    refine V_cN_ge 74 91 dX8_daysOf_74 (by decide) (by omega) (by omega) (fun c => ?_) (fun c => ?_)
    · exact hk J (fun q hq => by rw [if_neg (by omega)]) (fun _ _ => rfl)
    · omega
  | succ n ih =>
    intro j J hj hk
    refine V_iload 70 7 dX8_daysOf_70 rfl ?_
    refine V_iload 72 4 dX8_daysOf_72 rfl ?_
    refine V_cN_ge 74 91 dX8_daysOf_74 (by decide) (by omega) (by omega) (fun c => ?_) (fun c => ?_)
    · omega
    refine V_aload_n 77 0 dX8_daysOf_77 rfl ?_
    refine V_getR 78 flX8_90 dX8_daysOf_78 rfl ?_
    refine V_iload 81 7 dX8_daysOf_81 rfl ?_
    refine V_cst 83 0 dX8_daysOf_83 rfl ?_
    refine V_iast 84 dX8_daysOf_84 rfl (by omega) (by omega) ?_
    refine V_inc 85 7 _ [(0, _), (1, _), (2, _), (3, _), (4, _), (5, _), (6, _), (7, _)] dX8_daysOf_85 rfl rfl rfl (by decide) rfl ?_
    refine V_goto 88 70 dX8_daysOf_88 (by decide) ?_
    refine ih (j + 1) _ (by omega) (fun J' h1 h2 => hk J' (fun q hq => ?_) (fun i hi => ?_))
    · refine lp_if (fun e => ?_) (fun e => ?_) (h1 q hq) rfl
      · rw [w_put_other _ (Or.inr e)]
      · rw [e, w_put_same]
    · rw [h2 i hi, w_put_ne _ _ hi]
theorem dc_l {K si mo dd so : Nat} (hP : s_POK P) : ∀ (n j : Nat) (J : w_I), j + n = 2 ^ P 0 0 →
    (∀ J', (∀ q, q < 2 ^ P 0 0 → J' 88 q = if j ≤ q then J 89 q else J 88 q) → (∀ i, i ≠ 88 → J' i = J i) → V mX8_daysOf E Ω 0 0 (SH u v) J' L 205 [(0, .ref (Ω.1 + 63)), (1, .int (nI K)), (2, .int (nI si)), (3, .int (nI mo)), (4, .int (nI (2 ^ P 0 0))), (5, .int (nI dd)), (6, .int (nI so)), (7, .int (nI (2 ^ P 0 0)))] []) →
    V mX8_daysOf E Ω 0 0 (SH u v) J L 178 [(0, .ref (Ω.1 + 63)), (1, .int (nI K)), (2, .int (nI si)), (3, .int (nI mo)), (4, .int (nI (2 ^ P 0 0))), (5, .int (nI dd)), (6, .int (nI so)), (7, .int (nI j))] [] := by
  have h6 := hP.1.2
  have h64 : 2 ^ P 0 0 ≤ 64 := Nat.pow_le_pow_right (n := 2) (j := 6) (by decide) h6
  intro n
  induction n with
  | zero =>
    intro j J hj hk
    have e : j = 2 ^ P 0 0 := by omega
    subst e
    refine V_iload 178 7 dX8_daysOf_178 rfl ?_
    refine V_iload 180 4 dX8_daysOf_180 rfl ?_
    refine V_cN_ge 182 205 dX8_daysOf_182 (by decide) (by omega) (by omega) (fun c => ?_) (fun c => ?_)
    · exact hk J (fun q hq => by rw [if_neg (by omega)]) (fun _ _ => rfl)
    · omega
  | succ n ih =>
    intro j J hj hk
    refine V_iload 178 7 dX8_daysOf_178 rfl ?_
    refine V_iload 180 4 dX8_daysOf_180 rfl ?_
    refine V_cN_ge 182 205 dX8_daysOf_182 (by decide) (by omega) (by omega) (fun c => ?_) (fun c => ?_)
    · omega
    refine V_aload_n 185 0 dX8_daysOf_185 rfl ?_
    refine V_getR 186 flX8_87 dX8_daysOf_186 rfl ?_
    refine V_iload 189 7 dX8_daysOf_189 rfl ?_
    refine V_aload_n 191 0 dX8_daysOf_191 rfl ?_
    refine V_getR 192 flX8_90 dX8_daysOf_192 rfl ?_
    refine V_iload 195 7 dX8_daysOf_195 rfl ?_
    refine V_iald 197 dX8_daysOf_197 rfl (by omega) (by omega) ?_
    refine V_iast 198 dX8_daysOf_198 rfl (by omega) (by omega) ?_
    refine V_inc 199 7 _ [(0, _), (1, _), (2, _), (3, _), (4, _), (5, _), (6, _), (7, _)] dX8_daysOf_199 rfl rfl rfl (by decide) rfl ?_
    refine V_goto 202 178 dX8_daysOf_202 (by decide) ?_
    refine ih (j + 1) _ (by omega) (fun J' h1 h2 => hk J' (fun q hq => ?_) (fun i hi => ?_))
    · refine lp_if2 ?_ (fun e => ?_) (fun e => ?_) (h1 q hq) rfl
      · rw [w_put_ne _ 89 (by decide)]
      · rw [w_put_other _ (Or.inr e)]
      · rw [e, w_put_same]
    · rw [h2 i hi, w_put_ne _ _ hi]
theorem m_daysOf {I : w_I} {K si mo : Nat} (hP : s_POK P) (hMP : MP P I) (hMS : MS I) (hK : K < 2 ^ P 0 0) (hsi : si < 64) (hmo : 1 ≤ mo) (hmo2 : mo ≤ 60) (hS : I 63 52 + 832 < 2000000000) : FnI Ω (d + 68) mX8_daysOf [.ref (Ω.1 + 63), .int (nI K), .int (nI si), .int (nI mo)] (SH u v) I L (fun r S' I' L' => r = nI (if (K &&& s_met P) &&& (si ^^^ mI) ≠ 0 then mo else 0) ∧ S' = SH u v ∧ L = L' ∧ MS I' ∧ I' 63 52 ≤ I 63 52 + 832 ∧ FrK I I') := by
  have h6 := hP.1.2
  have h64 : 2 ^ P 0 0 ≤ 64 := Nat.pow_le_pow_right (n := 2) (j := 6) (by decide) h6
  have hpos : 1 ≤ 2 ^ P 0 0 := Nat.one_le_two_pow
  have hal := r_al_iff (P := P) (K := K) (si := si) (by omega)
  unfold r_al at hal
  refine FnR_of1 (d := d + 67) okX8_daysOf (Nat.le_of_ble_eq_true rfl) fun l z hE => ?_
  show V _ _ _ _ _ _ _ _ 0 [(0, _), (1, _), (2, _), (3, _)] []
  refine V_aload_n 0 0 dX8_daysOf_0 rfl ?_
  refine V_iload_n 1 2 dX8_daysOf_1 rfl ?_
  refine V_cst 2 1 dX8_daysOf_2 rfl ?_
  refine V_vv 3 mvX8_337 dX8_daysOf_3 ⟨_, _, _, rfl, rfl, rfl⟩ (w_fit.mono (by omega) hE) (m_beginFares (d := d) (si := si) (ks := 1) (Or.inr rfl) hP hMP) rfl (Nat.le_of_ble_eq_true rfl) ?_
  rintro _ I1 _ ⟨rfl, rfl, k1, k2, k3, k4, k5⟩
  have hc0 : c_n (I1 94) 64 = 0 := by
    have : ∀ n, n ≤ 64 → c_n (I1 94) n = 0 := by
      intro n
      induction n with
      | zero => intro _; rfl
      | succ n ih => intro hn; rw [c_n_succ, ih (by omega), k2 n (by omega), if_neg (by decide)]
    exact this 64 (Nat.le_refl _)
  refine V_aload_n 6 0 dX8_daysOf_6 rfl ?_
  refine V_iload_n 7 1 dX8_daysOf_7 rfl ?_
  refine V_vv 8 mvX8_331 dX8_daysOf_8 ⟨_, _, _, rfl, rfl, rfl⟩ (w_fit.mono (by omega) hE) (m_reach (d := d) (si := si) (ks := 1) hP (Or.inr rfl) hsi 64 K I1 (by omega) hK (k2 K (by omega)) k1 (hMS.of k3 k4) (fun k hk => Or.inl (k2 k hk)) (by rw [hc0, k3]; omega)) rfl (Nat.le_of_ble_eq_true rfl) ?_
  rintro _ B _ ⟨rfl, rfl, q1, q2, q3, q4, q5, q6, q7, q8⟩
  have hcB := c_n_le (B 94) 64
  have hFB : FrK I B := k5.trans q8
  have hCl : ∀ k, k < 64 → B 94 k = 1 → Cl P k B := fun k hk e => by
    rcases q6 k hk e with w | w
    · rw [k2 k hk] at w; exact absurd w (by decide)
    · exact w
  have hFO : ∀ k, k < 64 → B 94 k = 1 → FO P k si (r_p P 1) B := fun k hk e => by
    rcases q3 k hk with w | w
    · rw [e] at w; exact absurd w (by decide)
    · exact w.2
  have hSB : B 63 52 ≤ I 63 52 + 832 := by rw [hc0, k3] at q7; omega
  refine V_cst 11 1 dX8_daysOf_11 rfl ?_
  refine V_aload_n 12 0 dX8_daysOf_12 rfl ?_
  refine V_getR 13 flX8_7 dX8_daysOf_13 rfl ?_
  refine V_cst 16 0 dX8_daysOf_16 rfl ?_
  refine V_iald 17 dX8_daysOf_17 rfl (by omega) (by omega) ?_
  rw [q1.1.1]
  refine V_shl 18 dX8_daysOf_18 (by omega) ?_
  refine V_istore 19 [(0, _), (1, _), (2, _), (3, _), (4, _)] dX8_daysOf_19 (by decide) rfl ?_
  refine V_cst 21 0 dX8_daysOf_21 rfl ?_
  refine V_istore 22 [(0, _), (1, _), (2, _), (3, _), (4, _), (5, _)] dX8_daysOf_22 (by decide) rfl ?_
  rw [Nat.one_mul]
  refine df_l hP (by omega) (2 ^ P 0 0) 0 B (by omega) (fun J1 a1 a2 => ?_)
  -- a day, from a picture of knowers
  have day : ∀ (dd : Nat) (J : w_I), dd < mo → (∀ k, k < 2 ^ P 0 0 → J 88 k = 0 ∨ (J 88 k = 1 ∧ B 94 k = 1)) → J 93 = B 93 → (∀ i, i ≠ 88 → i ≠ 89 → J i = B i) →
      ((¬ ∃ k q, Dk J (2 ^ P 0 0) k q ∧ k < 2 ^ P 0 0) → r_al P K si = False → dd = 0 → True) →
      (∀ J', (∀ q, q < 2 ^ P 0 0 → (J' 88 q = 1 ∧ ∃ k, Dk J (2 ^ P 0 0) k q ∧ k < 2 ^ P 0 0) ∨ (J' 88 q = 0 ∧ ¬ ∃ k, Dk J (2 ^ P 0 0) k q ∧ k < 2 ^ P 0 0)) → (∀ i, i ≠ 88 → i ≠ 89 → J' i = B i) → (∃ k q, Dk J (2 ^ P 0 0) k q ∧ k < 2 ^ P 0 0) → V mX8_daysOf (w_Er l (d + 67 + 1) 0 0 Ω (w_pi (fun r S' I' L' => r = nI (if (K &&& s_met P) &&& (si ^^^ mI) ≠ 0 then mo else 0) ∧ S' = SH u v ∧ L = L' ∧ MS I' ∧ I' 63 52 ≤ I 63 52 + 832 ∧ FrK I I')) z) Ω 0 0 (SH u v) J' L 58 [(0, .ref (Ω.1 + 63)), (1, .int (nI K)), (2, .int (nI si)), (3, .int (nI mo)), (4, .int (nI (2 ^ P 0 0))), (5, .int (nI (dd + 1)))] []) →
      (∀ J', (∀ i, i ≠ 88 → i ≠ 89 → J' i = B i) → (¬ ∃ k q, Dk J (2 ^ P 0 0) k q ∧ k < 2 ^ P 0 0) → ∀ x y, V mX8_daysOf (w_Er l (d + 67 + 1) 0 0 Ω (w_pi (fun r S' I' L' => r = nI (if (K &&& s_met P) &&& (si ^^^ mI) ≠ 0 then mo else 0) ∧ S' = SH u v ∧ L = L' ∧ MS I' ∧ I' 63 52 ≤ I 63 52 + 832 ∧ FrK I I')) z) Ω 0 0 (SH u v) J' L 172 [(0, .ref (Ω.1 + 63)), (1, .int (nI K)), (2, .int (nI si)), (3, .int (nI mo)), (4, .int (nI (2 ^ P 0 0))), (5, .int (nI dd)), (6, .int (nI x)), (7, .int (nI y))] []) →
      V mX8_daysOf (w_Er l (d + 67 + 1) 0 0 Ω (w_pi (fun r S' I' L' => r = nI (if (K &&& s_met P) &&& (si ^^^ mI) ≠ 0 then mo else 0) ∧ S' = SH u v ∧ L = L' ∧ MS I' ∧ I' 63 52 ≤ I 63 52 + 832 ∧ FrK I I')) z) Ω 0 0 (SH u v) J L 58 [(0, .ref (Ω.1 + 63)), (1, .int (nI K)), (2, .int (nI si)), (3, .int (nI mo)), (4, .int (nI (2 ^ P 0 0))), (5, .int (nI dd))] [] := by
    intro dd J hdd hf h96 hJ _ hon hoff
    refine V_iload 58 5 dX8_daysOf_58 rfl ?_
    refine V_iload_n 60 3 dX8_daysOf_60 rfl ?_
    refine V_cN_ge 61 211 dX8_daysOf_61 (by decide) (by omega) (by omega) (fun c => ?_) (fun c => ?_)
    · omega
    refine V_cst 64 0 dX8_daysOf_64 rfl ?_
    refine V_istore 65 [(0, _), (1, _), (2, _), (3, _), (4, _), (5, _), (6, _)] dX8_daysOf_65 (by decide) rfl ?_
    refine V_cst 67 0 dX8_daysOf_67 rfl ?_
    refine V_istore 68 [(0, _), (1, _), (2, _), (3, _), (4, _), (5, _), (6, _), (7, _)] dX8_daysOf_68 (by decide) rfl ?_
    refine dn_l hP (2 ^ P 0 0) 0 J (by omega) (fun J2 b1 b2 => ?_)
    refine V_cst 91 0 dX8_daysOf_91 rfl ?_
    refine V_istore 92 [(0, _), (1, _), (2, _), (3, _), (4, _), (5, _), (6, _), (7, _)] dX8_daysOf_92 (by decide) rfl ?_
    have hIk : Ik J J2 (2 ^ P 0 0) 0 1 0 := by
      have e : ∀ q, ¬ Ek J (2 ^ P 0 0) 0 1 q := by
        rintro q ⟨k', ⟨-, e1, -⟩, e2⟩
        omega
      refine ⟨fun q hq => Or.inr ⟨by rw [b1 q hq, if_pos (Nat.zero_le _)], e q⟩, Or.inr ⟨rfl, ?_⟩⟩
      rintro ⟨q, w⟩
      exact e q w
    refine do_out (I := J) hP (fun k hk e q hq => ?_) (fun k hk => ?_) (2 ^ P 0 0) 0 0 J2 (by omega) (b2 88 (by decide)) (b2 93 (by decide)) hIk (fun J3 so g1 g2 => ?_)
    · rw [h96]
      have e2 : B 94 k = 1 := by
        rcases hf k hk with w | w
        · rw [e] at w; exact absurd w (by decide)
        · exact w.2
      exact (hFO k (by omega) e2).le hP (r_p_le hP) hq
    · rcases hf k hk with w | w
      · exact Or.inl w
      · exact Or.inr w.1
    have hEk : ∀ q, Ek J (2 ^ P 0 0) (2 ^ P 0 0) 1 q ↔ ∃ k, Dk J (2 ^ P 0 0) k q ∧ k < 2 ^ P 0 0 := by
      intro q
      constructor
      · rintro ⟨k, w1, w2⟩
        refine ⟨k, w1, ?_⟩
        obtain ⟨-, w3, -⟩ := w1
        omega
      · rintro ⟨k, w1, w2⟩
        exact ⟨k, w1, Or.inl w2⟩
    have h3 : ∀ i, i ≠ 88 → i ≠ 89 → J3 i = B i := fun i w1 w2 => by rw [g1 i w2, b2 i w2]; exact hJ i w1 w2
    refine V_iload 167 6 dX8_daysOf_167 rfl ?_
    rcases g2.2 with ⟨rfl, hq⟩ | ⟨rfl, hq⟩
    · refine V_zN_ne 169 175 dX8_daysOf_169 (by decide) (by omega) (fun c2 => ?_) (fun c2 => ?_)
      rotate_left
      · exact absurd c2 (by decide)
      refine V_cst 175 0 dX8_daysOf_175 rfl ?_
      refine V_istore 176 [(0, _), (1, _), (2, _), (3, _), (4, _), (5, _), (6, _), (7, _)] dX8_daysOf_176 (by decide) rfl ?_
      refine dc_l hP (2 ^ P 0 0) 0 J3 (by omega) (fun J4 e1 e2 => ?_)
      refine V_inc 205 5 _ [(0, _), (1, _), (2, _), (3, _), (4, _), (5, _), (6, _), (7, _)] dX8_daysOf_205 rfl rfl rfl (by decide) rfl ?_
      refine V_sub [(0, _), (1, _), (2, _), (3, _), (4, _), (5, _)] [0, 1, 2, 3, 4, 5] rfl ?_
      refine V_goto 208 58 dX8_daysOf_208 (by decide) ?_
      refine V_sub [(0, _), (1, _), (2, _), (3, _), (4, _), (5, _)] [0, 1, 2, 3, 4, 5] rfl ?_
      refine hon J4 (fun q hq => ?_) (fun i w1 w2 => by rw [e2 i w1]; exact h3 i w1 w2) ?_
      · rw [e1 q hq, if_pos (Nat.zero_le _), ← hEk q]
        exact g2.1 q hq
      · obtain ⟨q, w⟩ := hq
        obtain ⟨k, w1, w2⟩ := (hEk q).mp w
        exact ⟨k, q, w1, w2⟩
    · refine V_zN_ne 169 175 dX8_daysOf_169 (by decide) (by omega) (fun c2 => ?_) (fun c2 => ?_)
      · exact absurd rfl c2
      refine hoff J3 h3 ?_ 0 _
      rintro ⟨k, q, w1, w2⟩
      exact hq ⟨q, (hEk q).mpr ⟨k, w1, w2⟩⟩
  have fin : ∀ J : w_I, (∀ i, i ≠ 88 → i ≠ 89 → J i = B i) → MS J ∧ J 63 52 ≤ I 63 52 + 832 ∧ FrK I J := fun J hJ => ⟨q2.of (by rw [hJ 63 (by decide) (by decide)]) (hJ 97 (by decide) (by decide)), by rw [hJ 63 (by decide) (by decide)]; exact hSB, hFB.trans ⟨fun i w1 w2 => hJ i (by omega) (by omega), fun j _ => by rw [hJ 63 (by decide) (by decide)]⟩⟩
  have s1 : ∀ k, k < 2 ^ P 0 0 → J1 88 k = if k = K then 1 else 0 := fun k hk => by rw [a1 k hk, if_pos (Nat.zero_le _)]
  have s1b : ∀ k, k < 2 ^ P 0 0 → J1 88 k = 0 ∨ (J1 88 k = 1 ∧ B 94 k = 1) := fun k hk => by
    rw [s1 k hk]
    by_cases e : k = K
    · rw [if_pos e, e]; exact Or.inr ⟨rfl, q5⟩
    · rw [if_neg e]; exact Or.inl rfl
  refine V_cst 55 0 dX8_daysOf_55 rfl ?_
  refine V_istore 56 [(0, _), (1, _), (2, _), (3, _), (4, _), (5, _)] dX8_daysOf_56 (by decide) rfl ?_
  by_cases halive : (K &&& s_met P) &&& (si ^^^ mI) ≠ 0
  · -- somebody goes on
    obtain ⟨x, x6, x1, x2, x3⟩ := hal.mp halive
    have run : ∀ (n dd : Nat) (J : w_I), dd + n = mo → (∀ k, k < 2 ^ P 0 0 → J 88 k = 0 ∨ (J 88 k = 1 ∧ B 94 k = 1)) → (∃ k, k < 2 ^ P 0 0 ∧ J 88 k = 1 ∧ k.testBit x = true) → (∀ i, i ≠ 88 → i ≠ 89 → J i = B i) → V mX8_daysOf (w_Er l (d + 67 + 1) 0 0 Ω (w_pi (fun r S' I' L' => r = nI (if (K &&& s_met P) &&& (si ^^^ mI) ≠ 0 then mo else 0) ∧ S' = SH u v ∧ L = L' ∧ MS I' ∧ I' 63 52 ≤ I 63 52 + 832 ∧ FrK I I')) z) Ω 0 0 (SH u v) J L 58 [(0, .ref (Ω.1 + 63)), (1, .int (nI K)), (2, .int (nI si)), (3, .int (nI mo)), (4, .int (nI (2 ^ P 0 0))), (5, .int (nI dd))] [] := by
      intro n
      induction n with
      | zero =>
        intro dd J hdd _ _ hJ
        refine V_iload 58 5 dX8_daysOf_58 rfl ?_
        refine V_iload_n 60 3 dX8_daysOf_60 rfl ?_
        refine V_cN_ge 61 211 dX8_daysOf_61 (by decide) (by omega) (by omega) (fun c => ?_) (fun c => ?_)
        · refine V_iload_n 211 3 dX8_daysOf_211 rfl ?_
          obtain ⟨f1, f2, f3⟩ := fin J hJ
          exact V_iret 212 dX8_daysOf_212 rfl ⟨by rw [if_pos halive], rfl, rfl, f1, f2, f3⟩
        · omega
      | succ n ih =>
        intro dd J hdd hf hx hJ
        have h96 : J 93 = B 93 := hJ 93 (by decide) (by decide)
        obtain ⟨k, hk, hk1, hkx⟩ := hx
        have hB1 : B 94 k = 1 := by
          rcases hf k hk with w | w
          · rw [hk1] at w; exact absurd w (by decide)
          · exact w.2
        obtain ⟨h, s, c, r, hR, hhx⟩ := r_alive (K := k) (si := si) (w := r_p P 1) hP hkx x2 x3
        obtain ⟨b1, -, -, -, b5, -⟩ := rR_b hP (r_p_le hP) (P 2 0) (Nat.le_refl _) h s 1 c r hR
        have h12 := hP.2.2.1
        have hne : h ≠ 0 := fun e => by rw [e, Nat.zero_testBit] at hhx; exact absurd hhx (by decide)
        have hfare : B 93 (64 * k + h) ≤ c := (hFO k (by omega) hB1 h (by omega)).2 s c r hR
        have hNV : NVR = 1000000000 := rfl
        have hD : Dk J (2 ^ P 0 0) k h := ⟨hk1, by omega, b1, by rw [h96]; omega⟩
        refine day dd J (by omega) hf h96 hJ (fun _ _ _ => trivial) (fun J' g1 g2 g3 => ?_) (fun J' g1 g2 => absurd ⟨k, h, hD, hk⟩ g2)
        refine ih (dd + 1) J' (by omega) (fun q hq => ?_) ?_ g2
        · rcases g1 q hq with ⟨w1, k', ⟨w2, w3, w4, w5⟩, w6⟩ | ⟨w1, -⟩
          · refine Or.inr ⟨w1, ?_⟩
            have e1 : B 94 k' = 1 := by
              rcases hf k' w6 with w | w
              · rw [w2] at w; exact absurd w (by decide)
              · exact w.2
            rw [h96] at w5
            have := (hFO k' (by omega) e1).le hP (r_p_le hP) (q := q) (by omega)
            exact hCl k' (by omega) e1 q w3 w4 (by omega)
          · exact Or.inl w1
        · refine ⟨h, b1, ?_, hhx⟩
          rcases g1 h b1 with ⟨w1, -⟩ | ⟨-, w2⟩
          · exact w1
          · exact absurd ⟨k, hD, hk⟩ w2
    exact run mo 0 J1 (by omega) s1b ⟨K, hK, by rw [s1 K hK, if_pos rfl], x1⟩ (fun i w1 _ => a2 i w1)
  · -- nobody can
    have h96 : J1 93 = B 93 := a2 93 (by decide)
    have hno : ¬ ∃ k q, Dk J1 (2 ^ P 0 0) k q ∧ k < 2 ^ P 0 0 := by
      rintro ⟨k, q, ⟨w1, w2, w3, w4⟩, w5⟩
      have ek : k = K := by
        rw [s1 k w5] at w1
        by_cases e : k = K
        · exact e
        · rw [if_neg e] at w1; exact absurd w1 (by decide)
      subst ek
      rw [h96] at w4
      rcases (hFO k (by omega) q5 q (by omega)).1 with w | ⟨s, r, hR⟩
      · exact w4 w
      · obtain ⟨y, y1, y2, y3⟩ := r_first hP (P 2 0) (Nat.le_refl _) _ _ _ _ _ hR (by omega)
        have y6 : y < 6 := by
          rcases Nat.lt_or_ge y 6 with e | e
          · exact e
          · have := Nat.testBit_lt_two_pow (Nat.lt_of_lt_of_le (show k < 64 by omega) (Nat.pow_le_pow_right (n := 2) (by decide) e))
            rw [y1] at this
            exact absurd this (by decide)
        exact halive (hal.mpr ⟨y, y6, y1, y2, y3⟩)
    refine day 0 J1 (by omega) s1b h96 (fun i w1 _ => a2 i w1) (fun _ _ _ => trivial) (fun J' g1 g2 g3 => absurd g3 hno) (fun J' g1 g2 x y => ?_)
    refine V_iload 172 5 dX8_daysOf_172 rfl ?_
    obtain ⟨f1, f2, f3⟩ := fin J' g1
    exact V_iret 174 dX8_daysOf_174 rfl ⟨by rw [if_neg halive], rfl, rfl, f1, f2, f3⟩
end
