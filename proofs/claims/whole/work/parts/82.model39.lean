theorem bits_step : ∀ x, x < 64 → x ≠ 0 → b_cnt (x &&& (x - 1)) 6 + 1 = b_cnt x 6 ∧ x &&& (x - 1) < x := by decide +kernel
/-- the knowers are people -/
def KPl (σ : w_Z) : Prop := (∀ p, σ 2 8 p < 2 ^ σ 0 0 0) ∧ (σ 3 5 0 = 0 ∨ ∀ p, σ 5 8 p < 2 ^ σ 0 0 0)
section
variable {Ω : w_O} {d u v : Nat} {L : w_L} {E : w_E} {P : w_R} {σ : w_Z}
theorem m_bitsOf {I : w_I} {x : Nat} (hx : x < 64) : FnI Ω d mX8_bitsOf [.int (nI x)] (SH u v) I L (fun r S' I' L' => r = nI (b_cnt x 6) ∧ S' = SH u v ∧ I = I' ∧ L = L') := by
  refine FnR_of okX8_bitsOf (Nat.le_of_ble_eq_true rfl) fun l z => ?_
  show V _ _ _ _ _ _ _ _ 0 [(0, _)] []
  have loop : ∀ (m y n : Nat), y ≤ m → y < 64 → n + b_cnt y 6 = b_cnt x 6 → V mX8_bitsOf (w_Er l d 0 0 Ω (w_pi (fun r S' I' L' => r = nI (b_cnt x 6) ∧ S' = SH u v ∧ I = I' ∧ L = L')) z) Ω 0 0 (SH u v) I L 4 [(0, .int (nI x)), (1, .int (nI n)), (2, .int (nI y))] [] := by
    have hx6 := b_cnt_le x 6
    intro m
    induction m with
    | zero =>
      intro y n hy h64 he
      have e : y = 0 := by omega
      subst e
      have e0 : b_cnt 0 6 = 0 := by decide
      refine V_iload_n 4 2 dX8_bitsOf_4 rfl ?_
      refine V_zN_eq 5 20 dX8_bitsOf_5 (by decide) (by omega) (fun c => ?_) (fun c => ?_)
      rotate_left
      · exact absurd rfl c
      refine V_iload_n 20 1 dX8_bitsOf_20 rfl ?_
      exact V_iret 21 dX8_bitsOf_21 rfl ⟨by rw [← he, e0]; rfl, rfl, rfl, rfl⟩
    | succ m ih =>
      intro y n hy h64 he
      by_cases e : y = 0
      · exact ih y n (by omega) h64 he
      · obtain ⟨s1, s2⟩ := bits_step y h64 e
        refine V_iload_n 4 2 dX8_bitsOf_4 rfl ?_
        refine V_zN_eq 5 20 dX8_bitsOf_5 (by decide) (by omega) (fun c => ?_) (fun c => ?_)
        · exact absurd c e
        refine V_inc 8 1 _ [(0, _), (1, _), (2, _)] dX8_bitsOf_8 rfl rfl rfl (by decide) rfl ?_
        refine V_iload_n 11 2 dX8_bitsOf_11 rfl ?_
        refine V_iload_n 12 2 dX8_bitsOf_12 rfl ?_
        refine V_cst 13 1 dX8_bitsOf_13 rfl ?_
        refine V_sub1 14 dX8_bitsOf_14 (by omega) ?_
        refine V_and 15 dX8_bitsOf_15 ?_
        refine V_istore_n 16 [(0, _), (1, _), (2, _)] dX8_bitsOf_16 (by decide) rfl ?_
        refine V_goto 17 4 dX8_bitsOf_17 (by decide) ?_
        exact ih _ (n + 1) (by omega) (by omega) (by omega)
  refine V_cst 0 0 dX8_bitsOf_0 rfl ?_
  refine V_istore_n 1 [(0, _), (1, _)] dX8_bitsOf_1 (by decide) rfl ?_
  refine V_iload_n 2 0 dX8_bitsOf_2 rfl ?_
  refine V_istore_n 3 [(0, _), (1, _), (2, _)] dX8_bitsOf_3 (by decide) rfl ?_
  exact loop 64 x 0 (by omega) hx (by omega)
theorem MC.st {C : w_R} {I : w_I} (h : MC 0 P C I) {p : Nat} (hp : p < P 6 0) : I 82 p = q_st C p ∧ I 84 p = C 8 p := by
  obtain ⟨a, -, b⟩ := h.2.2 p hp
  rw [Nat.mul_zero, Nat.zero_add] at a b
  exact ⟨a, b⟩
theorem m_isAsked {I : w_I} {C : w_R} {p : Nat} (hp : p < 4294967296) (hP : s_POK P) (hMP : MP P I) (hC : MC 0 P C I) : FnI Ω (d + 2) mX8_isAsked [.ref (Ω.1 + 63), .int (nI p)] (SH u v) I L (fun r S' I' L' => r = nI (if p < P 6 0 ∧ q_st C p = 1 then 1 else 0) ∧ S' = SH u v ∧ I = I' ∧ L = L') := by
  have h12 := hP.2.2.2.2.1
  refine FnR_of1 okX8_isAsked (Nat.le_of_ble_eq_true rfl) fun l z hE => ?_
  show V _ _ _ _ _ _ _ _ 0 [(0, _), (1, _)] []
  have no : ¬ (p < P 6 0 ∧ q_st C p = 1) → V mX8_isAsked (w_Er l (d + 2) 0 0 Ω (w_pi (fun r S' I' L' => r = nI (if p < P 6 0 ∧ q_st C p = 1 then 1 else 0) ∧ S' = SH u v ∧ I = I' ∧ L = L')) z) Ω 0 0 (SH u v) I L 22 [(0, .ref (Ω.1 + 63)), (1, .int (nI p))] [] := by
    intro h
    rw [if_neg h]
    refine V_cst 22 0 dX8_isAsked_22 rfl ?_
    exact V_zret 23 dX8_isAsked_23 rfl rfl ⟨rfl, rfl, rfl, rfl⟩
  refine V_aload_n 0 0 dX8_isAsked_0 rfl ?_
  refine V_iload_n 1 1 dX8_isAsked_1 rfl ?_
  refine V_vi 2 mvX8_258 dX8_isAsked_2 ⟨_, _, _, rfl, rfl, rfl⟩ (w_fit.mono (by omega) hE) (m_isPromise (d := d) hp hP hMP) rfl (Nat.le_of_ble_eq_true rfl) ?_
  rintro _ _ _ _ ⟨rfl, rfl, rfl, rfl⟩
  by_cases h : p < P 6 0
  rotate_left
  · rw [if_neg h]
    refine V_zN_eq 5 22 dX8_isAsked_5 (by decide) (by omega) (fun c => ?_) (fun c => ?_)
    · exact no (fun q => h q.1)
    · exact absurd rfl c
  rw [if_pos h]
  have hs := q_st_lt C p
  refine V_zN_eq 5 22 dX8_isAsked_5 (by decide) (by omega) (fun c => ?_) (fun c => ?_)
  · exact absurd c (by decide)
  refine V_aload_n 8 0 dX8_isAsked_8 rfl ?_
  refine V_getR 9 flX8_68 dX8_isAsked_9 rfl ?_
  refine V_iload_n 12 1 dX8_isAsked_12 rfl ?_
  refine V_iald 13 dX8_isAsked_13 rfl (by omega) (by omega) ?_
  rw [(hC.st h).1]
  refine V_cst 14 1 dX8_isAsked_14 rfl ?_
  refine V_cN_ne 15 22 dX8_isAsked_15 (by decide) (by omega) (by omega) (fun c1 => ?_) (fun c1 => ?_)
  · exact no (fun q => c1 q.2)
  refine V_cst 18 1 dX8_isAsked_18 rfl ?_
  refine V_goto 19 23 dX8_isAsked_19 (by decide) ?_
  exact V_zret 23 dX8_isAsked_23 rfl rfl ⟨by rw [if_pos ⟨h, c1⟩], rfl, rfl, rfl⟩
theorem m_isSets {I : w_I} {a : Nat} (ha : a < 4294967296) (hP : s_POK P) (hMP : MP P I) : FnI Ω (d + 1) mX8_isSets [.ref (Ω.1 + 63), .int (nI a)] (SH u v) I L (fun r S' I' L' => r = nI (if a < 2 ^ P 0 0 then 1 else 0) ∧ S' = SH u v ∧ I = I' ∧ L = L') := by
  have h6 := hP.1.2
  have h64 : 2 ^ P 0 0 ≤ 64 := Nat.pow_le_pow_right (n := 2) (j := 6) (by decide) h6
  have hpos : 1 ≤ 2 ^ P 0 0 := Nat.one_le_two_pow
  refine FnR_of1 okX8_isSets (Nat.le_of_ble_eq_true rfl) fun l z hE => ?_
  show V _ _ _ _ _ _ _ _ 0 [(0, _), (1, _)] []
  refine V_iload_n 0 1 dX8_isSets_0 rfl ?_
  refine V_cst 1 0 dX8_isSets_1 rfl ?_
  refine V_cst 2 1 dX8_isSets_2 rfl ?_
  refine V_aload_n 3 0 dX8_isSets_3 rfl ?_
  refine V_getR 4 flX8_7 dX8_isSets_4 rfl ?_
  refine V_cst 7 0 dX8_isSets_7 rfl ?_
  refine V_iald 8 dX8_isSets_8 rfl (by omega) (by omega) ?_
  rw [hMP.1]
  refine V_shl 9 dX8_isSets_9 (by omega) ?_
  rw [Nat.one_mul]
  refine V_cst 10 1 dX8_isSets_10 rfl ?_
  refine V_sub1 11 dX8_isSets_11 (by omega) ?_
  refine V_si 12 msX8_131 dX8_isSets_12 (w_fit.mono (by omega) hE) (m_isIn (d := d) (a := a) (lo := 0) (hi := 2 ^ P 0 0 - 1) ha (by decide) (by omega)) rfl (Nat.le_of_ble_eq_true rfl) ?_
  rintro _ _ _ _ ⟨rfl, rfl, rfl, rfl⟩
  have e : (sgn 0 ≤ sgn a ∧ sgn a ≤ sgn (2 ^ P 0 0 - 1)) ↔ a < 2 ^ P 0 0 := by
    rw [sgn_s (x := 0) (by omega), sgn_s (x := 2 ^ P 0 0 - 1) (by omega)]
    unfold sgn
    split <;> omega
  simp only [e]
  exact V_zret 15 dX8_isSets_15 rfl (by split <;> rfl) ⟨rfl, rfl, rfl, rfl⟩
theorem FrM.k {I J J' : w_I} (h : FrM I J) (hf : FrK J J') (hs : J' 63 52 + I 63 52 ≤ J 63 52 + I 63 52 + 500000) (h0 : J 63 52 = I 63 52) : FrM I J' := ⟨h.1.trans (fun i hi => hf.1 i (by omega) (by omega)), by omega⟩
/-- what is answered to one who asks for a promise that stands -/
def q_code (σ : w_Z) (a : Nat) (ok : Bool) : Nat := if a < σ 0 6 0 ∧ q_st (σ 2) a = 1 then (if ok then 0 else 2) else 1
theorem m_stands {I : w_I} {a b : Nat} (ha : a < 4294967296) (hb : b < 4294967296) (hO : SOK σ) (hKP : KPl σ) (hM : MInv σ I) (hS : I 63 52 < 1000000000) : FnI Ω (d + 69) mX8_stands [.ref (Ω.1 + 63), .int (nI a), .int (nI b)] (SH u v) I L (MO u v L I σ (q_code σ a (decide (b < 2 ^ σ 0 0 0))) (if q_ks σ a &&& (b ^^^ mI) ≠ 0 then 60 else 0)) := by
  have hM1 : MInv σ (w_put I 63 0 0) := hM.code
  have h6 := hO.1.1.2
  have h64 : 2 ^ σ 0 0 0 ≤ 64 := Nat.pow_le_pow_right (n := 2) (j := 6) (by decide) h6
  have h12 := hO.1.2.2.2.2.1
  have hJ : FrM I (w_put I 63 0 0) := FrM.rf.put (by decide) (by decide)
  have c0 : w_put I 63 0 0 63 0 = 0 := w_put_same _ _ _ _
  have c52 : w_put I 63 0 0 63 52 = I 63 52 := w_put_other _ (Or.inr (by decide))
  refine FnR_of1 (d := d + 68) okX8_stands (Nat.le_of_ble_eq_true rfl) fun l z hE => ?_
  show V _ _ _ _ _ _ _ _ 0 [(0, _), (1, _), (2, _)] []
  refine V_aload_n 0 0 dX8_stands_0 rfl ?_
  refine V_cst 1 0 dX8_stands_1 rfl ?_
  refine V_putI 2 flX8_128 ft_8_0 dX8_stands_2 rfl ?_
  refine V_aload_n 5 0 dX8_stands_5 rfl ?_
  refine V_iload_n 6 1 dX8_stands_6 rfl ?_
  generalize w_put I 63 0 0 = J at hM1 hJ c0 c52 ⊢
  refine V_vi 7 mvX8_350 dX8_stands_7 ⟨_, _, _, rfl, rfl, rfl⟩ (w_fit.mono (by omega) hE) (m_isAsked (d := d) (C := σ 2) ha hO.1 hM1.1 hM1.2.2.1) rfl (Nat.le_of_ble_eq_true rfl) ?_
  rintro _ _ _ _ ⟨rfl, rfl, rfl, rfl⟩
  unfold q_code
  by_cases h : a < σ 0 6 0 ∧ q_st (σ 2) a = 1
  rotate_left
  · rw [if_neg h, if_neg h]
    refine V_zN_ne 10 19 dX8_stands_10 (by decide) (by omega) (fun c => ?_) (fun c => ?_)
    · exact absurd rfl c
    refine V_aload_n 13 0 dX8_stands_13 rfl ?_
    refine V_cst 14 1 dX8_stands_14 rfl ?_
    refine V_vi 15 mvX8_232 dX8_stands_15 ⟨_, _, _, rfl, rfl, rfl⟩ (w_fit.mono (by omega) hE) (m_fail (d := d) (x := 1)) rfl (Nat.le_of_ble_eq_true rfl) ?_
    rintro _ _ _ _ ⟨rfl, rfl, rfl, rfl⟩
    exact V_iret 18 dX8_stands_18 rfl ⟨rfl, rfl, w_put_same _ _ _ _, fun e => absurd e (by decide), hM1.code, hJ.put (by decide) (by decide)⟩
  rw [if_pos h, if_pos h]
  refine V_zN_ne 10 19 dX8_stands_10 (by decide) (by omega) (fun c => ?_) (fun c => ?_)
  rotate_left
  · exact absurd c (by decide)
  refine V_aload_n 19 0 dX8_stands_19 rfl ?_
  refine V_iload_n 20 2 dX8_stands_20 rfl ?_
  refine V_vi 21 mvX8_334 dX8_stands_21 ⟨_, _, _, rfl, rfl, rfl⟩ (w_fit.mono (by omega) hE) (m_isSets (d := d) hb hO.1 hM1.1) rfl (Nat.le_of_ble_eq_true rfl) ?_
  rintro _ _ _ _ ⟨rfl, rfl, rfl, rfl⟩
  by_cases h2 : b < 2 ^ σ 0 0 0
  rotate_left
  · rw [if_neg h2, decide_eq_false h2]
    rw [if_neg (show ¬ (false = true) by decide)]
    refine V_zN_eq 24 43 dX8_stands_24 (by decide) (by omega) (fun c1 => ?_) (fun c1 => ?_)
    rotate_left
    · exact absurd rfl c1
    refine V_aload_n 43 0 dX8_stands_43 rfl ?_
    refine V_cst 44 2 dX8_stands_44 rfl ?_
    refine V_vi 45 mvX8_232 dX8_stands_45 ⟨_, _, _, rfl, rfl, rfl⟩ (w_fit.mono (by omega) hE) (m_fail (d := d) (x := 2)) rfl (Nat.le_of_ble_eq_true rfl) ?_
    rintro _ _ _ _ ⟨rfl, rfl, rfl, rfl⟩
    exact V_iret 48 dX8_stands_48 rfl ⟨rfl, rfl, w_put_same _ _ _ _, fun e => absurd e (by decide), hM1.code, hJ.put (by decide) (by decide)⟩
  rw [if_pos h2, decide_eq_true h2, if_pos (show true = true from rfl)]
  refine V_zN_eq 24 43 dX8_stands_24 (by decide) (by omega) (fun c1 => ?_) (fun c1 => ?_)
  · exact absurd c1 (by decide)
  have e87 : J 84 a = σ 2 8 a := (hM1.2.2.1.st h.1).2
  refine V_aload_n 27 0 dX8_stands_27 rfl ?_
  refine V_aload_n 28 0 dX8_stands_28 rfl ?_
  refine V_getR 29 flX8_74 dX8_stands_29 rfl ?_
  refine V_iload_n 32 1 dX8_stands_32 rfl ?_
  refine V_iald 33 dX8_stands_33 rfl (by omega) (by omega) ?_
  rw [e87]
  refine V_iload_n 34 2 dX8_stands_34 rfl ?_
  refine V_bip 35 60 dX8_stands_35 rfl ?_
  refine V_vi 37 mvX8_356 dX8_stands_37 ⟨_, _, _, rfl, rfl, rfl⟩ (w_fit.mono (by omega) hE) (m_daysOf (d := d) (K := σ 2 8 a) (si := b) (mo := 60) hO.1 hM1.1 hM1.2.2.2.2.2.2.2 (hKP.1 a) (by omega) (by decide) (by decide) (by omega)) rfl (Nat.le_of_ble_eq_true rfl) ?_
  rintro _ _ J1 _ ⟨rfl, rfl, rfl, k1, k2, k3⟩
  refine V_goto 40 48 dX8_stands_40 (by decide) ?_
  exact V_iret 48 dX8_stands_48 rfl ⟨rfl, rfl, by rw [k3.2 0 (by decide)]; exact c0, fun _ => rfl, hM1.k k3 k1, hJ.k k3 (by omega) c52⟩
end
