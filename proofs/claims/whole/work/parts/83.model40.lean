/-- pairs, by the lesser first -/
def p_i (f : Nat → Nat → Nat) (a : Nat) : Nat → Nat
  | 0 => 0
  | k + 1 => p_i f a k + f a (a + 1 + k)
def p_o (f : Nat → Nat → Nat) (np : Nat) : Nat → Nat
  | 0 => 0
  | a + 1 => p_o f np a + p_i f a (np - 1 - a)
def p_s (f : Nat → Nat → Nat) (n : Nat) : Nat → Nat
  | 0 => 0
  | a + 1 => p_s f n a + f a n
theorem p_o_succ (f : Nat → Nat → Nat) (n : Nat) : ∀ a, a ≤ n → p_o f (n + 1) a = p_o f n a + p_s f n a := by
  intro a
  induction a with
  | zero => intro _; rfl
  | succ a ih =>
    intro ha
    show p_o f (n + 1) a + p_i f a (n + 1 - 1 - a) = p_o f n a + p_i f a (n - 1 - a) + (p_s f n a + f a n)
    rw [ih (by omega), show n + 1 - 1 - a = (n - 1 - a) + 1 by omega]
    show _ + (p_i f a (n - 1 - a) + f a (a + 1 + (n - 1 - a))) = _
    rw [show a + 1 + (n - 1 - a) = n by omega]
    omega
def p_f (K a b : Nat) : Nat := if K &&& (2 ^ a ||| 2 ^ b) ≠ 0 then 1 else 0
theorem p_s_pin (K n : Nat) : ∀ a, p_s (p_f K) n a = q_pin K n a := by
  intro a
  induction a with
  | zero => rfl
  | succ a ih =>
    show p_s (p_f K) n a + p_f K a n = q_pin K n a + _
    rw [ih]
    unfold p_f
    rw [Nat.or_comm (2 ^ a)]
theorem p_o_prs (K : Nat) : ∀ n, p_o (p_f K) n n = q_prs K n := by
  intro n
  induction n with
  | zero => rfl
  | succ n ih =>
    show p_o (p_f K) (n + 1) n + p_i (p_f K) n (n + 1 - 1 - n) = q_prs K n + q_pin K n n
    rw [p_o_succ _ _ _ (Nat.le_refl _), ih, p_s_pin, show n + 1 - 1 - n = 0 by omega]
    rfl
/-- nobody who could say it is left out of a set: the set holds all of them -/
theorem and_x_zero {K s : Nat} (hK : K < 64) : K &&& (s ^^^ mI) = 0 ↔ Sb K s := by
  constructor
  · intro h x hx
    have h6 : x < 6 := by
      rcases Nat.lt_or_ge x 6 with e | e
      · exact e
      · have := Nat.testBit_lt_two_pow (Nat.lt_of_lt_of_le hK (Nat.pow_le_pow_right (n := 2) (by decide) e))
        rw [hx] at this
        exact absurd this (by decide)
    have : (K &&& (s ^^^ mI)).testBit x = false := by rw [h, Nat.zero_testBit]
    rw [Nat.testBit_and, hx, tb_mI (by omega)] at this
    simpa using this
  · intro h
    apply Nat.eq_of_testBit_eq
    intro x
    rw [Nat.zero_testBit, Nat.testBit_and]
    cases hx : K.testBit x
    · rfl
    · have h6 : x < 6 := by
        rcases Nat.lt_or_ge x 6 with e | e
        · exact e
        · have := Nat.testBit_lt_two_pow (Nat.lt_of_lt_of_le hK (Nat.pow_le_pow_right (n := 2) (by decide) e))
          rw [hx] at this
          exact absurd this (by decide)
      rw [tb_mI (by omega), h x hx]
      rfl
theorem Sb.eq_of_cnt {a b : Nat} (h : Sb a b) (ha : a < 64) (hb : b < 64) (hc : b_cnt b 6 ≤ b_cnt a 6) : a = b := by
  by_cases e : a = b
  · exact e
  · have := b_cnt_lt h e ha hb
    omega
section
variable {Ω : w_O} {d u v : Nat} {L : w_L} {E : w_E} {P : w_R} {σ : w_Z}
theorem days60 {b : Nat} (hb : b < 4294967296) : (sgn 1 ≤ sgn b ∧ sgn b ≤ sgn 60) ↔ (1 ≤ b ∧ b ≤ 60) := by
  rw [sgn_s (x := 1) (by omega), sgn_s (x := 60) (by omega)]
  unfold sgn
  split <;> omega
theorem m_silence {I : w_I} {a b : Nat} (ha : a < 4294967296) (hb : b < 4294967296) (hO : SOK σ) (hKP : KPl σ) (hM : MInv σ I) (hS : I 63 52 < 1000000000) : FnI Ω (d + 69) mX8_silence [.ref (Ω.1 + 63), .int (nI a), .int (nI b)] (SH u v) I L (MO u v L I σ (q_code σ a (decide (1 ≤ b ∧ b ≤ 60))) (q_ks σ a)) := by
  have hM1 : MInv σ (w_put I 63 0 0) := hM.code
  have h6 := hO.1.1.2
  have h64 : 2 ^ σ 0 0 0 ≤ 64 := Nat.pow_le_pow_right (n := 2) (j := 6) (by decide) h6
  have h12 := hO.1.2.2.2.2.1
  have hJ : FrM I (w_put I 63 0 0) := FrM.rf.put (by decide) (by decide)
  have c0 : w_put I 63 0 0 63 0 = 0 := w_put_same _ _ _ _
  have c52 : w_put I 63 0 0 63 52 = I 63 52 := w_put_other _ (Or.inr (by decide))
  refine FnR_of1 (d := d + 68) okX8_silence (Nat.le_of_ble_eq_true rfl) fun l z hE => ?_
  show V _ _ _ _ _ _ _ _ 0 [(0, _), (1, _), (2, _)] []
  refine V_aload_n 0 0 dX8_silence_0 rfl ?_
  refine V_cst 1 0 dX8_silence_1 rfl ?_
  refine V_putI 2 flX8_128 ft_8_0 dX8_silence_2 rfl ?_
  refine V_aload_n 5 0 dX8_silence_5 rfl ?_
  refine V_iload_n 6 1 dX8_silence_6 rfl ?_
  generalize w_put I 63 0 0 = J at hM1 hJ c0 c52 ⊢
  refine V_vi 7 mvX8_350 dX8_silence_7 ⟨_, _, _, rfl, rfl, rfl⟩ (w_fit.mono (by omega) hE) (m_isAsked (d := d) (C := σ 2) ha hO.1 hM1.1 hM1.2.2.1) rfl (Nat.le_of_ble_eq_true rfl) ?_
  rintro _ _ _ _ ⟨rfl, rfl, rfl, rfl⟩
  unfold q_code
  by_cases h : a < σ 0 6 0 ∧ q_st (σ 2) a = 1
  rotate_left
  · rw [if_neg h, if_neg h]
    refine V_zN_ne 10 19 dX8_silence_10 (by decide) (by omega) (fun c => ?_) (fun c => ?_)
    · exact absurd rfl c
    refine V_aload_n 13 0 dX8_silence_13 rfl ?_
    refine V_cst 14 1 dX8_silence_14 rfl ?_
    refine V_vi 15 mvX8_232 dX8_silence_15 ⟨_, _, _, rfl, rfl, rfl⟩ (w_fit.mono (by omega) hE) (m_fail (d := d) (x := 1)) rfl (Nat.le_of_ble_eq_true rfl) ?_
    rintro _ _ _ _ ⟨rfl, rfl, rfl, rfl⟩
    exact V_iret 18 dX8_silence_18 rfl ⟨rfl, rfl, w_put_same _ _ _ _, fun e => absurd e (by decide), hM1.code, hJ.put (by decide) (by decide)⟩
  rw [if_pos h, if_pos h]
  refine V_zN_ne 10 19 dX8_silence_10 (by decide) (by omega) (fun c => ?_) (fun c => ?_)
  rotate_left
  · exact absurd c (by decide)
  refine V_iload_n 19 2 dX8_silence_19 rfl ?_
  refine V_cst 20 1 dX8_silence_20 rfl ?_
  refine V_bip 21 60 dX8_silence_21 rfl ?_
  refine V_si 23 msX8_131 dX8_silence_23 (w_fit.mono (by omega) hE) (m_isIn (d := d) (a := b) (lo := 1) (hi := 60) hb (by decide) (by decide)) rfl (Nat.le_of_ble_eq_true rfl) ?_
  rintro _ _ _ _ ⟨rfl, rfl, rfl, rfl⟩
  simp only [days60 hb]
  by_cases h2 : 1 ≤ b ∧ b ≤ 60
  rotate_left
  · rw [if_neg h2, decide_eq_false h2, if_neg (show ¬ (false = true) by decide)]
    refine V_zN_ne 26 35 dX8_silence_26 (by decide) (by omega) (fun c1 => ?_) (fun c1 => ?_)
    · exact absurd rfl c1
    refine V_aload_n 29 0 dX8_silence_29 rfl ?_
    refine V_cst 30 2 dX8_silence_30 rfl ?_
    refine V_vi 31 mvX8_232 dX8_silence_31 ⟨_, _, _, rfl, rfl, rfl⟩ (w_fit.mono (by omega) hE) (m_fail (d := d) (x := 2)) rfl (Nat.le_of_ble_eq_true rfl) ?_
    rintro _ _ _ _ ⟨rfl, rfl, rfl, rfl⟩
    exact V_iret 34 dX8_silence_34 rfl ⟨rfl, rfl, w_put_same _ _ _ _, fun e => absurd e (by decide), hM1.code, hJ.put (by decide) (by decide)⟩
  rw [if_pos h2, decide_eq_true h2, if_pos (show true = true from rfl)]
  refine V_zN_ne 26 35 dX8_silence_26 (by decide) (by omega) (fun c1 => ?_) (fun c1 => ?_)
  rotate_left
  · exact absurd c1 (by decide)
  have hkK : q_ks σ a < 2 ^ σ 0 0 0 := and_lt1 (hKP.1 a)
  have hk64 : q_ks σ a < 64 := by omega
  have hkb := b_cnt_le (q_ks σ a) 6
  -- the sets of n people, from s on
  have fin : ∀ (n s : Nat) (J' : w_I), n ≤ 7 → s ≤ 64 → MInv σ J' → FrK J J' → J' 63 52 ≤ J 63 52 + 832 * (64 * n + s) → MO u v L I σ 0 (q_ks σ a) (nI (q_ks σ a)) (SH u v) J' L := fun n s J' hn hs w1 w2 w3 => ⟨rfl, rfl, by rw [w2.2 0 (by decide)]; exact c0, fun _ => rfl, w1, hJ.k w2 (by omega) c52⟩
  have inn : ∀ (m s n : Nat) (J' : w_I), s + m = 2 ^ σ 0 0 0 → n ≤ b_cnt (q_ks σ a) 6 → (n = b_cnt (q_ks σ a) 6 → s ≤ q_ks σ a) → MInv σ J' → FrK J J' → J' 63 52 ≤ J 63 52 + 832 * (64 * n + s) →
      (∀ J2, n < b_cnt (q_ks σ a) 6 → MInv σ J2 → FrK J J2 → J2 63 52 ≤ J 63 52 + 832 * (64 * n + 64) → V mX8_silence (w_Er l (d + 68 + 1) 0 0 Ω (w_pi (MO u v L I σ 0 (q_ks σ a))) z) Ω 0 0 (SH u v) J2 L 98 [(0, .ref (Ω.1 + 63)), (1, .int (nI a)), (2, .int (nI b)), (3, .int (nI n)), (4, .int (nI (2 ^ σ 0 0 0)))] []) →
      V mX8_silence (w_Er l (d + 68 + 1) 0 0 Ω (w_pi (MO u v L I σ 0 (q_ks σ a))) z) Ω 0 0 (SH u v) J' L 50 [(0, .ref (Ω.1 + 63)), (1, .int (nI a)), (2, .int (nI b)), (3, .int (nI n)), (4, .int (nI s))] [] := by
    intro m
    induction m with
    | zero =>
      intro s n J' hs hn hns w1 w2 w3 hk
      refine V_iload 50 4 dX8_silence_50 rfl ?_
      refine V_cst 52 1 dX8_silence_52 rfl ?_
      refine V_aload_n 53 0 dX8_silence_53 rfl ?_
      refine V_getR 54 flX8_7 dX8_silence_54 rfl ?_
      refine V_cst 57 0 dX8_silence_57 rfl ?_
      refine V_iald 58 dX8_silence_58 rfl (by omega) (by omega) ?_
      rw [w1.1.1]
      refine V_shl 59 dX8_silence_59 (by omega) ?_
      rw [Nat.one_mul]
      refine V_cN_ge 60 98 dX8_silence_60 (by decide) (by omega) (by omega) (fun c2 => ?_) (fun c2 => ?_)
      rotate_left
      · omega
      have e : s = 2 ^ σ 0 0 0 := by omega
      subst e
      exact hk J' (by by_cases e : n = b_cnt (q_ks σ a) 6; have := hns e; omega; omega) w1 w2 (by omega)
    | succ m ih =>
      intro s n J' hs hn hns w1 w2 w3 hk
      refine V_iload 50 4 dX8_silence_50 rfl ?_
      refine V_cst 52 1 dX8_silence_52 rfl ?_
      refine V_aload_n 53 0 dX8_silence_53 rfl ?_
      refine V_getR 54 flX8_7 dX8_silence_54 rfl ?_
      refine V_cst 57 0 dX8_silence_57 rfl ?_
      refine V_iald 58 dX8_silence_58 rfl (by omega) (by omega) ?_
      rw [w1.1.1]
      refine V_shl 59 dX8_silence_59 (by omega) ?_
      rw [Nat.one_mul]
      refine V_cN_ge 60 98 dX8_silence_60 (by decide) (by omega) (by omega) (fun c2 => ?_) (fun c2 => ?_)
      · omega
      have hs6 := b_cnt_le s 6
      have next : ∀ J2, MInv σ J2 → FrK J J2 → J2 63 52 ≤ J 63 52 + 832 * (64 * n + s) + 832 → (n = b_cnt (q_ks σ a) 6 → s ≠ q_ks σ a) → V mX8_silence (w_Er l (d + 68 + 1) 0 0 Ω (w_pi (MO u v L I σ 0 (q_ks σ a))) z) Ω 0 0 (SH u v) J2 L 92 [(0, .ref (Ω.1 + 63)), (1, .int (nI a)), (2, .int (nI b)), (3, .int (nI n)), (4, .int (nI s))] [] := by
        intro J2 g1 g2 g3 g4
        refine V_inc 92 4 _ [(0, _), (1, _), (2, _), (3, _), (4, _)] dX8_silence_92 rfl rfl rfl (by decide) rfl ?_
        refine V_goto 95 50 dX8_silence_95 (by decide) ?_
        have e : 832 * (64 * n + (s + 1)) = 832 * (64 * n + s) + 832 := Nat.mul_succ 832 (64 * n + s)
        exact ih (s + 1) n J2 (by omega) hn (fun e => by have := hns e; have := g4 e; omega) g1 g2 (by rw [e, ← Nat.add_assoc]; exact g3) hk
      refine V_iload 63 4 dX8_silence_63 rfl ?_
      refine V_si 65 msX8_353 dX8_silence_65 (w_fit.mono (by omega) hE) (m_bitsOf (d := d) (x := s) (by omega)) rfl (Nat.le_of_ble_eq_true rfl) ?_
      rintro _ _ _ _ ⟨rfl, rfl, rfl, rfl⟩
      refine V_iload_n 68 3 dX8_silence_68 rfl ?_
      refine V_cN_ne 69 92 dX8_silence_69 (by decide) (by omega) (by omega) (fun c3 => ?_) (fun c3 => ?_)
      · exact next J' w1 w2 (by omega) (fun e1 e2 => c3 (by rw [e2, e1]))
      have e87 : J' 84 a = σ 2 8 a := (w1.2.2.1.st h.1).2
      refine V_aload_n 72 0 dX8_silence_72 rfl ?_
      refine V_aload_n 73 0 dX8_silence_73 rfl ?_
      refine V_getR 74 flX8_74 dX8_silence_74 rfl ?_
      refine V_iload_n 77 1 dX8_silence_77 rfl ?_
      refine V_iald 78 dX8_silence_78 rfl (by omega) (by omega) ?_
      rw [e87]
      refine V_iload 79 4 dX8_silence_79 rfl ?_
      refine V_iload_n 81 2 dX8_silence_81 rfl ?_
      refine V_vi 82 mvX8_356 dX8_silence_82 ⟨_, _, _, rfl, rfl, rfl⟩ (w_fit.mono (by omega) hE) (m_daysOf (d := d) (K := σ 2 8 a) (si := s) (mo := b) hO.1 w1.1 w1.2.2.2.2.2.2.2 (hKP.1 a) (by omega) h2.1 h2.2 (by omega)) rfl (Nat.le_of_ble_eq_true rfl) ?_
      rintro _ _ J1 _ ⟨rfl, rfl, rfl, k1, k2, k3⟩
      have hz : ((σ 2 8 a &&& s_met (σ 0)) &&& (s ^^^ mI) = 0) ↔ Sb (q_ks σ a) s := and_x_zero hk64
      refine V_iload_n 85 2 dX8_silence_85 rfl ?_
      by_cases hsub : Sb (q_ks σ a) s
      · have es : s = q_ks σ a := (hsub.eq_of_cnt hk64 (by omega) (by omega)).symm
        rw [if_neg (fun w => w (hz.mpr hsub))]
        refine V_cN_ge 86 92 dX8_silence_86 (by decide) (by omega) (by omega) (fun c4 => ?_) (fun c4 => ?_)
        · omega
        refine V_iload 89 4 dX8_silence_89 rfl ?_
        have e1 : 832 * (64 * n + s + 1) = 832 * (64 * n + s) + 832 := Nat.mul_succ 832 (64 * n + s)
        have e2 : 832 * (64 * n + s + 1) ≤ 832 * (64 * (n + 1) + 0) := Nat.mul_le_mul_left _ (by omega)
        have e3 : J1 63 52 ≤ J 63 52 + 832 * (64 * (n + 1) + 0) := by
          refine Nat.le_trans k2 (Nat.le_trans (Nat.add_le_add_right w3 832) ?_)
          rw [Nat.add_assoc, ← e1]
          exact Nat.add_le_add_left e2 _
        subst es
        exact V_iret 91 dX8_silence_91 rfl (fin (n + 1) 0 J1 (by omega) (by omega) (w1.k k3 k1) (w2.trans k3) e3)
      · rw [if_pos (fun w => hsub (hz.mp w))]
        refine V_cN_ge 86 92 dX8_silence_86 (by decide) (by omega) (by omega) (fun c4 => ?_) (fun c4 => ?_)
        rotate_left
        · omega
        exact next J1 (w1.k k3 k1) (w2.trans k3) (by omega) (fun _ e2 => hsub (by rw [e2]; exact Sb.rf))
  have out : ∀ (m n : Nat) (J' : w_I), n + m = b_cnt (q_ks σ a) 6 → MInv σ J' → FrK J J' → J' 63 52 ≤ J 63 52 + 832 * (64 * n) → V mX8_silence (w_Er l (d + 68 + 1) 0 0 Ω (w_pi (MO u v L I σ 0 (q_ks σ a))) z) Ω 0 0 (SH u v) J' L 37 [(0, .ref (Ω.1 + 63)), (1, .int (nI a)), (2, .int (nI b)), (3, .int (nI n))] [] := by
    have hcnp : b_cnt (q_ks σ a) 6 ≤ σ 0 0 0 := by
      have key : ∀ n, n ≤ 6 → b_cnt (q_ks σ a) n ≤ σ 0 0 0 := by
        intro n
        induction n with
        | zero => intro _; exact Nat.zero_le _
        | succ n ih =>
          intro hn
          rw [b_cnt_succ]
          by_cases hnp : n < σ 0 0 0
          · have := b_cnt_le (q_ks σ a) n
            split <;> omega
          · have : (q_ks σ a).testBit n = false := Nat.testBit_lt_two_pow (Nat.lt_of_lt_of_le hkK (Nat.pow_le_pow_right (by decide) (by omega)))
            rw [this, if_neg (by decide)]
            exact ih (by omega)
      exact key 6 (Nat.le_refl _)
    intro m
    induction m with
    | zero =>
      intro n J' hn w1 w2 w3
      refine V_iload_n 37 3 dX8_silence_37 rfl ?_
      refine V_aload_n 38 0 dX8_silence_38 rfl ?_
      refine V_getR 39 flX8_7 dX8_silence_39 rfl ?_
      refine V_cst 42 0 dX8_silence_42 rfl ?_
      refine V_iald 43 dX8_silence_43 rfl (by omega) (by omega) ?_
      rw [w1.1.1]
      refine V_cN_gt 44 104 dX8_silence_44 (by decide) (by omega) (by omega) (fun c2 => ?_) (fun c2 => ?_)
      · omega
      refine V_cst 47 0 dX8_silence_47 rfl ?_
      refine V_istore 48 [(0, _), (1, _), (2, _), (3, _), (4, _)] dX8_silence_48 (by decide) rfl ?_
      exact inn (2 ^ σ 0 0 0) 0 n J' (by omega) (by omega) (fun _ => Nat.zero_le _) w1 w2 (by omega) (fun J2 q => by omega)
    | succ m ih =>
      intro n J' hn w1 w2 w3
      refine V_iload_n 37 3 dX8_silence_37 rfl ?_
      refine V_aload_n 38 0 dX8_silence_38 rfl ?_
      refine V_getR 39 flX8_7 dX8_silence_39 rfl ?_
      refine V_cst 42 0 dX8_silence_42 rfl ?_
      refine V_iald 43 dX8_silence_43 rfl (by omega) (by omega) ?_
      rw [w1.1.1]
      refine V_cN_gt 44 104 dX8_silence_44 (by decide) (by omega) (by omega) (fun c2 => ?_) (fun c2 => ?_)
      · omega
      refine V_cst 47 0 dX8_silence_47 rfl ?_
      refine V_istore 48 [(0, _), (1, _), (2, _), (3, _), (4, _)] dX8_silence_48 (by decide) rfl ?_
      refine inn (2 ^ σ 0 0 0) 0 n J' (by omega) (by omega) (fun _ => Nat.zero_le _) w1 w2 (by omega) (fun J2 q g1 g2 g3 => ?_)
      refine V_inc 98 3 _ [(0, _), (1, _), (2, _), (3, _), (4, _)] dX8_silence_98 rfl rfl rfl (by decide) rfl ?_
      refine V_sub [(0, _), (1, _), (2, _), (3, _)] [0, 1, 2, 3] rfl ?_
      refine V_goto 101 37 dX8_silence_101 (by decide) ?_
      refine V_sub [(0, _), (1, _), (2, _), (3, _)] [0, 1, 2, 3] rfl ?_
      exact ih (n + 1) J2 (by omega) g1 g2 (by omega)
  refine V_cst 35 0 dX8_silence_35 rfl ?_
  refine V_istore_n 36 [(0, _), (1, _), (2, _), (3, _)] dX8_silence_36 (by decide) rfl ?_
  exact out (b_cnt (q_ks σ a) 6) 0 J (by omega) hM1 FrK.rf (by omega)
theorem m_pairs {I : w_I} {a b : Nat} (ha : a < 4294967296) (hb : b < 4294967296) (hO : SOK σ) (hKP : KPl σ) (hM : MInv σ I) (hS : I 63 52 < 1000000000) : FnI Ω (d + 69) mX8_pairs [.ref (Ω.1 + 63), .int (nI a), .int (nI b)] (SH u v) I L (MO u v L I σ (q_code σ a (decide (1 ≤ b ∧ b ≤ 60))) (q_prs (q_ks σ a) (σ 0 0 0))) := by
  have hM1 : MInv σ (w_put I 63 0 0) := hM.code
  have h6 := hO.1.1.2
  have hmI : mI = 4294967295 := rfl
  have h64 : 2 ^ σ 0 0 0 ≤ 64 := Nat.pow_le_pow_right (n := 2) (j := 6) (by decide) h6
  have hpos : 1 ≤ 2 ^ σ 0 0 0 := Nat.one_le_two_pow
  have h12 := hO.1.2.2.2.2.1
  have hJ : FrM I (w_put I 63 0 0) := FrM.rf.put (by decide) (by decide)
  have c0 : w_put I 63 0 0 63 0 = 0 := w_put_same _ _ _ _
  have c52 : w_put I 63 0 0 63 52 = I 63 52 := w_put_other _ (Or.inr (by decide))
  refine FnR_of1 (d := d + 68) okX8_pairs (Nat.le_of_ble_eq_true rfl) fun l z hE => ?_
  show V _ _ _ _ _ _ _ _ 0 [(0, _), (1, _), (2, _)] []
  refine V_aload_n 0 0 dX8_pairs_0 rfl ?_
  refine V_cst 1 0 dX8_pairs_1 rfl ?_
  refine V_putI 2 flX8_128 ft_8_0 dX8_pairs_2 rfl ?_
  refine V_aload_n 5 0 dX8_pairs_5 rfl ?_
  refine V_iload_n 6 1 dX8_pairs_6 rfl ?_
  generalize w_put I 63 0 0 = J at hM1 hJ c0 c52 ⊢
  refine V_vi 7 mvX8_350 dX8_pairs_7 ⟨_, _, _, rfl, rfl, rfl⟩ (w_fit.mono (by omega) hE) (m_isAsked (d := d) (C := σ 2) ha hO.1 hM1.1 hM1.2.2.1) rfl (Nat.le_of_ble_eq_true rfl) ?_
  rintro _ _ _ _ ⟨rfl, rfl, rfl, rfl⟩
  unfold q_code
  by_cases h : a < σ 0 6 0 ∧ q_st (σ 2) a = 1
  rotate_left
  · rw [if_neg h, if_neg h]
    refine V_zN_ne 10 19 dX8_pairs_10 (by decide) (by omega) (fun c => ?_) (fun c => ?_)
    · exact absurd rfl c
    refine V_aload_n 13 0 dX8_pairs_13 rfl ?_
    refine V_cst 14 1 dX8_pairs_14 rfl ?_
    refine V_vi 15 mvX8_232 dX8_pairs_15 ⟨_, _, _, rfl, rfl, rfl⟩ (w_fit.mono (by omega) hE) (m_fail (d := d) (x := 1)) rfl (Nat.le_of_ble_eq_true rfl) ?_
    rintro _ _ _ _ ⟨rfl, rfl, rfl, rfl⟩
    exact V_iret 18 dX8_pairs_18 rfl ⟨rfl, rfl, w_put_same _ _ _ _, fun e => absurd e (by decide), hM1.code, hJ.put (by decide) (by decide)⟩
  rw [if_pos h, if_pos h]
  refine V_zN_ne 10 19 dX8_pairs_10 (by decide) (by omega) (fun c => ?_) (fun c => ?_)
  rotate_left
  · exact absurd c (by decide)
  refine V_iload_n 19 2 dX8_pairs_19 rfl ?_
  refine V_cst 20 1 dX8_pairs_20 rfl ?_
  refine V_bip 21 60 dX8_pairs_21 rfl ?_
  refine V_si 23 msX8_131 dX8_pairs_23 (w_fit.mono (by omega) hE) (m_isIn (d := d) (a := b) (lo := 1) (hi := 60) hb (by decide) (by decide)) rfl (Nat.le_of_ble_eq_true rfl) ?_
  rintro _ _ _ _ ⟨rfl, rfl, rfl, rfl⟩
  simp only [days60 hb]
  by_cases h2 : 1 ≤ b ∧ b ≤ 60
  rotate_left
  · rw [if_neg h2, decide_eq_false h2, if_neg (show ¬ (false = true) by decide)]
    refine V_zN_ne 26 35 dX8_pairs_26 (by decide) (by omega) (fun c1 => ?_) (fun c1 => ?_)
    · exact absurd rfl c1
    refine V_aload_n 29 0 dX8_pairs_29 rfl ?_
    refine V_cst 30 2 dX8_pairs_30 rfl ?_
    refine V_vi 31 mvX8_232 dX8_pairs_31 ⟨_, _, _, rfl, rfl, rfl⟩ (w_fit.mono (by omega) hE) (m_fail (d := d) (x := 2)) rfl (Nat.le_of_ble_eq_true rfl) ?_
    rintro _ _ _ _ ⟨rfl, rfl, rfl, rfl⟩
    exact V_iret 34 dX8_pairs_34 rfl ⟨rfl, rfl, w_put_same _ _ _ _, fun e => absurd e (by decide), hM1.code, hJ.put (by decide) (by decide)⟩
  rw [if_pos h2, decide_eq_true h2, if_pos (show true = true from rfl)]
  refine V_zN_ne 26 35 dX8_pairs_26 (by decide) (by omega) (fun c1 => ?_) (fun c1 => ?_)
  rotate_left
  · exact absurd c1 (by decide)
  have hkK : q_ks σ a < 2 ^ σ 0 0 0 := and_lt1 (hKP.1 a)
  have hk64 : q_ks σ a < 64 := by omega
  have hall : ∀ x y, x < σ 0 0 0 → y < σ 0 0 0 → (((2 ^ σ 0 0 0 - 1) &&& ((2 ^ x ||| 2 ^ y) ^^^ mI)) < 64 ∧ (((σ 2 8 a &&& s_met (σ 0)) &&& (((2 ^ σ 0 0 0 - 1) &&& ((2 ^ x ||| 2 ^ y) ^^^ mI)) ^^^ mI) ≠ 0) ↔ q_ks σ a &&& (2 ^ x ||| 2 ^ y) ≠ 0)) := by
    intro x y hx hy
    refine ⟨and_lt1 (by omega), ?_⟩
    have e : (σ 2 8 a &&& s_met (σ 0)) &&& (((2 ^ σ 0 0 0 - 1) &&& ((2 ^ x ||| 2 ^ y) ^^^ mI)) ^^^ mI) = q_ks σ a &&& (2 ^ x ||| 2 ^ y) := by
      apply Nat.eq_of_testBit_eq
      intro i
      show (q_ks σ a &&& _).testBit i = _
      rw [Nat.testBit_and, Nat.testBit_and]
      by_cases hi : i < σ 0 0 0
      · rw [tb_mI (by omega), Nat.testBit_and, tb_mI (by omega), Nat.testBit_two_pow_sub_one, decide_eq_true hi]
        simp
      · have : (q_ks σ a).testBit i = false := Nat.testBit_lt_two_pow (Nat.lt_of_lt_of_le hkK (Nat.pow_le_pow_right (by decide) (by omega)))
        rw [this]
        rfl
    rw [e]
  have inn : ∀ (k x j acc : Nat) (J' : w_I), x < σ 0 0 0 → x + 1 + j + k = σ 0 0 0 → acc ≤ 6 * x + j → MInv σ J' → FrK J J' → J' 63 52 ≤ J 63 52 + 832 * (6 * x + j) →
      (∀ J2 acc', acc' + p_i (p_f (q_ks σ a)) x j = acc + p_i (p_f (q_ks σ a)) x (j + k) → acc' ≤ 6 * (x + 1) → MInv σ J2 → FrK J J2 → J2 63 52 ≤ J 63 52 + 832 * (6 * (x + 1)) → V mX8_pairs (w_Er l (d + 68 + 1) 0 0 Ω (w_pi (MO u v L I σ 0 (q_prs (q_ks σ a) (σ 0 0 0)))) z) Ω 0 0 (SH u v) J2 L 123 [(0, .ref (Ω.1 + 63)), (1, .int (nI a)), (2, .int (nI b)), (3, .int (nI acc')), (4, .int (nI (2 ^ σ 0 0 0 - 1))), (5, .int (nI x)), (6, .int (nI (σ 0 0 0)))] []) →
      V mX8_pairs (w_Er l (d + 68 + 1) 0 0 Ω (w_pi (MO u v L I σ 0 (q_prs (q_ks σ a) (σ 0 0 0)))) z) Ω 0 0 (SH u v) J' L 69 [(0, .ref (Ω.1 + 63)), (1, .int (nI a)), (2, .int (nI b)), (3, .int (nI acc)), (4, .int (nI (2 ^ σ 0 0 0 - 1))), (5, .int (nI x)), (6, .int (nI (x + 1 + j)))] [] := by
    intro k
    induction k with
    | zero =>
      intro x j acc J' hx hj hacc w1 w2 w3 hk
      have e2 : 832 * (6 * x + j) ≤ 832 * (6 * (x + 1)) := Nat.mul_le_mul_left _ (by omega)
      refine V_iload 69 6 dX8_pairs_69 rfl ?_
      refine V_aload_n 71 0 dX8_pairs_71 rfl ?_
      refine V_getR 72 flX8_7 dX8_pairs_72 rfl ?_
      refine V_cst 75 0 dX8_pairs_75 rfl ?_
      refine V_iald 76 dX8_pairs_76 rfl (by omega) (by omega) ?_
      rw [w1.1.1]
      refine V_cN_ge 77 123 dX8_pairs_77 (by decide) (by omega) (by omega) (fun c2 => ?_) (fun c2 => ?_)
      rotate_left
      · omega
      rw [show x + 1 + j = σ 0 0 0 by omega]
      exact hk J' acc rfl (by omega) w1 w2 (Nat.le_trans w3 (Nat.add_le_add_left e2 _))
    | succ k ih =>
      intro x j acc J' hx hj hacc w1 w2 w3 hk
      obtain ⟨hlt, hiff⟩ := hall x (x + 1 + j) hx (by omega)
      have e87 : J' 84 a = σ 2 8 a := (w1.2.2.1.st h.1).2
      have hstep : p_i (p_f (q_ks σ a)) x (j + 1) = p_i (p_f (q_ks σ a)) x j + p_f (q_ks σ a) x (x + 1 + j) := rfl
      have ew : 832 * (6 * x + (j + 1)) = 832 * (6 * x + j) + 832 := Nat.mul_succ 832 (6 * x + j)
      have hb2 : 832 * (6 * x + j) ≤ 832 * 100 := Nat.mul_le_mul_left _ (by omega)
      refine V_iload 69 6 dX8_pairs_69 rfl ?_
      refine V_aload_n 71 0 dX8_pairs_71 rfl ?_
      refine V_getR 72 flX8_7 dX8_pairs_72 rfl ?_
      refine V_cst 75 0 dX8_pairs_75 rfl ?_
      refine V_iald 76 dX8_pairs_76 rfl (by omega) (by omega) ?_
      rw [w1.1.1]
      refine V_cN_ge 77 123 dX8_pairs_77 (by decide) (by omega) (by omega) (fun c2 => ?_) (fun c2 => ?_)
      · omega
      refine V_iload_n 80 3 dX8_pairs_80 rfl ?_
      refine V_aload_n 81 0 dX8_pairs_81 rfl ?_
      refine V_aload_n 82 0 dX8_pairs_82 rfl ?_
      refine V_getR 83 flX8_74 dX8_pairs_83 rfl ?_
      refine V_iload_n 86 1 dX8_pairs_86 rfl ?_
      refine V_iald 87 dX8_pairs_87 rfl (by omega) (by omega) ?_
      rw [e87]
      refine V_iload 88 4 dX8_pairs_88 rfl ?_
      refine V_cst 90 1 dX8_pairs_90 rfl ?_
      refine V_iload 91 5 dX8_pairs_91 rfl ?_
      refine V_shl 93 dX8_pairs_93 (by omega) ?_
      refine V_cst 94 1 dX8_pairs_94 rfl ?_
      refine V_iload 95 6 dX8_pairs_95 rfl ?_
      refine V_shl 97 dX8_pairs_97 (by omega) ?_
      refine V_or 98 dX8_pairs_98 ?_
      refine V_cst 99 4294967295 dX8_pairs_99 rfl ?_
      refine V_xor 100 dX8_pairs_100 ?_
      refine V_and 101 dX8_pairs_101 ?_
      refine V_iload_n 102 2 dX8_pairs_102 rfl ?_
      rw [Nat.one_mul, Nat.one_mul]
      refine V_vi 103 mvX8_356 dX8_pairs_103 ⟨_, _, _, rfl, rfl, rfl⟩ (w_fit.mono (by omega) hE) (m_daysOf (d := d) (K := σ 2 8 a) (si := (2 ^ σ 0 0 0 - 1) &&& ((2 ^ x ||| 2 ^ (x + 1 + j)) ^^^ mI)) (mo := b) hO.1 w1.1 w1.2.2.2.2.2.2.2 (hKP.1 a) hlt h2.1 h2.2 (by omega)) rfl (Nat.le_of_ble_eq_true rfl) ?_
      rintro _ _ J1 _ ⟨rfl, rfl, rfl, k1, k2, k3⟩
      have on : ∀ y, y = p_f (q_ks σ a) x (x + 1 + j) → V mX8_pairs (w_Er l (d + 68 + 1) 0 0 Ω (w_pi (MO u v L I σ 0 (q_prs (q_ks σ a) (σ 0 0 0)))) z) Ω 0 0 (SH u v) J1 L 115 [(0, .ref (Ω.1 + 63)), (1, .int (nI a)), (2, .int (nI b)), (3, .int (nI acc)), (4, .int (nI (2 ^ σ 0 0 0 - 1))), (5, .int (nI x)), (6, .int (nI (x + 1 + j)))] [.int (nI y), .int (nI acc)] := by
        intro y hy
        have hy1 : y ≤ 1 := by rw [hy]; unfold p_f; split <;> decide
        refine V_add 115 dX8_pairs_115 ?_
        refine V_istore_n 116 [(0, _), (1, _), (2, _), (3, _), (4, _), (5, _), (6, _)] dX8_pairs_116 (by decide) rfl ?_
        refine V_inc 117 6 _ [(0, _), (1, _), (2, _), (3, _), (4, _), (5, _), (6, _)] dX8_pairs_117 rfl rfl rfl (by decide) rfl ?_
        refine V_goto 120 69 dX8_pairs_120 (by decide) ?_
        have e3 : J1 63 52 ≤ J 63 52 + 832 * (6 * x + (j + 1)) := by
          rw [ew, ← Nat.add_assoc]
          exact Nat.le_trans k2 (Nat.add_le_add_right w3 832)
        refine ih x (j + 1) (acc + y) J1 hx (by omega) (by omega) (w1.k k3 k1) (w2.trans k3) e3 (fun J2 acc' q1 q2 q3 q4 q5 => hk J2 acc' ?_ q2 q3 q4 q5)
        rw [hstep, ← hy, show j + 1 + k = j + (k + 1) by omega] at q1
        omega
      refine V_iload_n 106 2 dX8_pairs_106 rfl ?_
      by_cases hc : (σ 2 8 a &&& s_met (σ 0)) &&& (((2 ^ σ 0 0 0 - 1) &&& ((2 ^ x ||| 2 ^ (x + 1 + j)) ^^^ mI)) ^^^ mI) ≠ 0
      · rw [if_pos hc]
        refine V_cN_ne 107 114 dX8_pairs_107 (by decide) (by omega) (by omega) (fun c3 => ?_) (fun c3 => ?_)
        · exact absurd rfl c3
        refine V_cst 110 1 dX8_pairs_110 rfl ?_
        refine V_goto 111 115 dX8_pairs_111 (by decide) ?_
        exact on 1 (by unfold p_f; rw [if_pos (hiff.mp hc)])
      · rw [if_neg hc]
        refine V_cN_ne 107 114 dX8_pairs_107 (by decide) (by omega) (by omega) (fun c3 => ?_) (fun c3 => ?_)
        rotate_left
        · omega
        refine V_cst 114 0 dX8_pairs_114 rfl ?_
        exact on 0 (by unfold p_f; rw [if_neg (fun q => hc (hiff.mpr q))])
  have out : ∀ (k x acc : Nat) (J' : w_I), x + k = σ 0 0 0 → acc = p_o (p_f (q_ks σ a)) (σ 0 0 0) x → acc ≤ 6 * x → MInv σ J' → FrK J J' → J' 63 52 ≤ J 63 52 + 832 * (6 * x) → V mX8_pairs (w_Er l (d + 68 + 1) 0 0 Ω (w_pi (MO u v L I σ 0 (q_prs (q_ks σ a) (σ 0 0 0)))) z) Ω 0 0 (SH u v) J' L 52 [(0, .ref (Ω.1 + 63)), (1, .int (nI a)), (2, .int (nI b)), (3, .int (nI acc)), (4, .int (nI (2 ^ σ 0 0 0 - 1))), (5, .int (nI x))] [] := by
    intro k
    induction k with
    | zero =>
      intro x acc J' hx hacc hb1 w1 w2 w3
      have hb2 : 832 * (6 * x) ≤ 832 * 100 := Nat.mul_le_mul_left _ (by omega)
      have e : x = σ 0 0 0 := by omega
      subst e
      refine V_iload 52 5 dX8_pairs_52 rfl ?_
      refine V_aload_n 54 0 dX8_pairs_54 rfl ?_
      refine V_getR 55 flX8_7 dX8_pairs_55 rfl ?_
      refine V_cst 58 0 dX8_pairs_58 rfl ?_
      refine V_iald 59 dX8_pairs_59 rfl (by omega) (by omega) ?_
      rw [w1.1.1]
      refine V_cN_ge 60 129 dX8_pairs_60 (by decide) (by omega) (by omega) (fun c2 => ?_) (fun c2 => ?_)
      rotate_left
      · omega
      refine V_iload_n 129 3 dX8_pairs_129 rfl ?_
      exact V_iret 130 dX8_pairs_130 rfl ⟨rfl, rfl, by rw [w2.2 0 (by decide)]; exact c0, fun _ => by rw [hacc, p_o_prs], w1, hJ.k w2 (by omega) c52⟩
    | succ k ih =>
      intro x acc J' hx hacc hb1 w1 w2 w3
      refine V_iload 52 5 dX8_pairs_52 rfl ?_
      refine V_aload_n 54 0 dX8_pairs_54 rfl ?_
      refine V_getR 55 flX8_7 dX8_pairs_55 rfl ?_
      refine V_cst 58 0 dX8_pairs_58 rfl ?_
      refine V_iald 59 dX8_pairs_59 rfl (by omega) (by omega) ?_
      rw [w1.1.1]
      refine V_cN_ge 60 129 dX8_pairs_60 (by decide) (by omega) (by omega) (fun c2 => ?_) (fun c2 => ?_)
      · omega
      refine V_iload 63 5 dX8_pairs_63 rfl ?_
      refine V_cst 65 1 dX8_pairs_65 rfl ?_
      refine V_add 66 dX8_pairs_66 ?_
      refine V_istore 67 [(0, _), (1, _), (2, _), (3, _), (4, _), (5, _), (6, _)] dX8_pairs_67 (by decide) rfl ?_
      refine inn k x 0 acc J' (by omega) (by omega) (by omega) w1 w2 w3 (fun J2 acc' q1 q2 q3 q4 q5 => ?_)
      refine V_inc 123 5 _ [(0, _), (1, _), (2, _), (3, _), (4, _), (5, _), (6, _)] dX8_pairs_123 rfl rfl rfl (by decide) rfl ?_
      refine V_sub [(0, _), (1, _), (2, _), (3, _), (4, _), (5, _)] [0, 1, 2, 3, 4, 5] rfl ?_
      refine V_goto 126 52 dX8_pairs_126 (by decide) ?_
      refine V_sub [(0, _), (1, _), (2, _), (3, _), (4, _), (5, _)] [0, 1, 2, 3, 4, 5] rfl ?_
      refine ih (x + 1) acc' J2 (by omega) ?_ q2 q3 q4 q5
      have q1 : acc' + 0 = acc + p_i (p_f (q_ks σ a)) x (0 + k) := q1
      rw [Nat.zero_add, show k = σ 0 0 0 - 1 - x by omega] at q1
      show acc' = p_o (p_f (q_ks σ a)) (σ 0 0 0) x + p_i (p_f (q_ks σ a)) x (σ 0 0 0 - 1 - x)
      rw [← hacc]
      omega
  refine V_cst 35 0 dX8_pairs_35 rfl ?_
  refine V_istore_n 36 [(0, _), (1, _), (2, _), (3, _)] dX8_pairs_36 (by decide) rfl ?_
  refine V_cst 37 1 dX8_pairs_37 rfl ?_
  refine V_aload_n 38 0 dX8_pairs_38 rfl ?_
  refine V_getR 39 flX8_7 dX8_pairs_39 rfl ?_
  refine V_cst 42 0 dX8_pairs_42 rfl ?_
  refine V_iald 43 dX8_pairs_43 rfl (by omega) (by omega) ?_
  rw [hM1.1.1]
  refine V_shl 44 dX8_pairs_44 (by omega) ?_
  rw [Nat.one_mul]
  refine V_cst 45 1 dX8_pairs_45 rfl ?_
  refine V_sub1 46 dX8_pairs_46 (by omega) ?_
  refine V_istore 47 [(0, _), (1, _), (2, _), (3, _), (4, _)] dX8_pairs_47 (by decide) rfl ?_
  refine V_cst 49 0 dX8_pairs_49 rfl ?_
  refine V_istore 50 [(0, _), (1, _), (2, _), (3, _), (4, _), (5, _)] dX8_pairs_50 (by decide) rfl ?_
  exact out (σ 0 0 0) 0 0 J (by omega) rfl (by omega) hM1 FrK.rf (by omega)
end
