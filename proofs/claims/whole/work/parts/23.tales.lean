/-! Tales: when each one first had heard, and first may have -/
def bitN (x w : Nat) : Prop := (x / 2 ^ w) &&& 1 ≠ 0
theorem bitN_iff (x w : Nat) : bitN x w ↔ x.testBit w = true := by
  unfold bitN
  rw [Nat.testBit_eq_decide_div_mod_eq, Nat.and_one_is_mod]
  simp
/-- the course at the beginning of a day, and before an hour of it, in a town of its own -/
def t_D (P Y C0 : w_R) : Nat → w_R
  | 0 => C0
  | n + 1 => s_day P Y (t_D P Y C0 n)
def t_H (P Y C0 : w_R) (dd h : Nat) : w_R := (List.range h).foldl (s_hour P Y) (t_D P Y C0 dd)
/-- who has heard p that day at the end of a moment -/
def t_h (P Y C0 : w_R) (t p : Nat) : Nat := t_H P Y C0 (t / 12) (t % 12 + 1) 9 p
/-- when w first had heard p, by the first t moments -/
def t_F (P Y C0 : w_R) : Nat → Nat → Nat → Nat
  | 0, _, _ => 1200
  | t + 1, p, w => if t_F P Y C0 t p w < 1200 then t_F P Y C0 t p w else if (t_h P Y C0 t p).testBit w then t else 1200
/-- who may have heard p: behind a meeting, behind a moment (t moments behind the one in which it is made) -/
def y_m (P : w_R) (X m : Nat) : Nat := if X &&& s_both P m ≠ 0 then X ||| s_both P m else X
def y_fr (P : w_R) (p : Nat) : Nat := P 9 p * 12 + P 10 p
def y_0 (P : w_R) (p : Nat) : Nat := 2 ^ P 7 p ||| 2 ^ P 8 p
/-- the set before the moment y_fr + t -/
def y_S (P : w_R) (p : Nat) : Nat → Nat
  | 0 => y_0 P p
  | t + 1 => (s_mh P ((y_fr P p + t) % 12)).foldl (y_m P) (y_S P p t)
/-- when w first may have heard p, by the first t moments -/
def y_F (P : w_R) (p : Nat) : Nat → Nat → Nat
  | 0, w => if (y_0 P p).testBit w then y_fr P p else 1200
  | t + 1, w => if (y_S P p t).testBit w then y_F P p t w else if (y_S P p (t + 1)).testBit w then y_fr P p + t else 1200
section
variable {Ω : w_O} {d u v : Nat} {L : w_L} {E : w_E} {P Y : w_R}
/-! mark -/
theorem mk_l {a p x t : Nat} (hS : (SH u v)[a]? = some (.inl (0, 72))) (hp : p < 12) (hx : x < 64) : ∀ (n j : Nat) (I : w_I), j + n = 6 →
    (∀ I', Fr a (a + 1) I I' → (∀ q w, w < 6 → I' a (q * 6 + w) = if q = p ∧ j ≤ w ∧ x.testBit w then t else I a (q * 6 + w)) → V mX6_mark E Ω 0 0 (SH u v) I' L 35 [(0, .ref (Ω.1 + a)), (1, .int (nI p)), (2, .int (nI x)), (3, .int (nI t)), (4, .int (nI 6))] []) →
    V mX6_mark E Ω 0 0 (SH u v) I L 3 [(0, .ref (Ω.1 + a)), (1, .int (nI p)), (2, .int (nI x)), (3, .int (nI t)), (4, .int (nI j))] [] := by
  intro n
  induction n with
  | zero =>
    intro j I hj hk
    have e : j = 6 := by omega
    subst e
    refine V_iload 3 4 dX6_mark_3 rfl ?_
    refine V_bip 5 6 dX6_mark_5 rfl ?_
    refine V_cN_ge 7 35 dX6_mark_7 (by decide) (by omega) (by omega) (fun c => ?_) (fun c => ?_)
    · exact hk I Fr.rf (fun q w hw => by rw [if_neg (by omega)])
    · omega
  | succ n ih =>
    intro j I hj hk
    refine V_iload 3 4 dX6_mark_3 rfl ?_
    refine V_bip 5 6 dX6_mark_5 rfl ?_
    refine V_cN_ge 7 35 dX6_mark_7 (by decide) (by omega) (by omega) (fun c => ?_) (fun c => ?_)
    · omega
    refine V_iload_n 10 2 dX6_mark_10 rfl ?_
    refine V_iload 11 4 dX6_mark_11 rfl ?_
    refine V_shr 13 dX6_mark_13 (by omega) (by omega) ?_
    refine V_cst 14 1 dX6_mark_14 rfl ?_
    refine V_and 15 dX6_mark_15 ?_
    refine V_zN_eq 16 29 dX6_mark_16 (by decide) (and_lt2 (by decide)) (fun c1 => ?_) (fun c1 => ?_)
    · have c1 : x.testBit j = false := by
        cases h : x.testBit j
        · rfl
        · exact absurd c1 ((bitN_iff x j).mpr h)
      refine V_inc 29 4 _ [(0, _), (1, _), (2, _), (3, _), (4, _)] dX6_mark_29 rfl rfl rfl (by decide) rfl ?_
      refine V_goto 32 3 dX6_mark_32 (by decide) ?_
      refine ih (j + 1) I (by omega) (fun I' h1 h2 => hk I' h1 (fun q w hw => ?_))
      rw [h2 q w hw]
      by_cases e : w = j
      · subst e; simp [c1]
      · by_cases e2 : j ≤ w
        · simp [show j + 1 ≤ w by omega, e2]
        · simp [show ¬ j + 1 ≤ w by omega, e2]
    · have c1 : x.testBit j = true := (bitN_iff x j).mp c1
      refine V_aload_n 19 0 dX6_mark_19 rfl ?_
      refine V_iload_n 20 1 dX6_mark_20 rfl ?_
      refine V_bip 21 6 dX6_mark_21 rfl ?_
      refine V_mul 23 dX6_mark_23 ?_
      refine V_iload 24 4 dX6_mark_24 rfl ?_
      refine V_add 26 dX6_mark_26 ?_
      refine V_iload_n 27 3 dX6_mark_27 rfl ?_
      refine V_iast 28 dX6_mark_28 hS (by omega) (by omega) ?_
      refine V_inc 29 4 _ [(0, _), (1, _), (2, _), (3, _), (4, _)] dX6_mark_29 rfl rfl rfl (by decide) rfl ?_
      refine V_goto 32 3 dX6_mark_32 (by decide) ?_
      refine ih (j + 1) _ (by omega) (fun I' h1 h2 => hk I' ((Fr.rf.put (by omega) (by omega)).trans h1) (fun q w hw => ?_))
      rw [h2 q w hw, w_put_eq]
      by_cases e : q = p ∧ w = j
      · obtain ⟨rfl, rfl⟩ := e
        simp [c1]
      · have e3 : ¬ (q * 6 + w = p * 6 + j) := fun h => e (by omega)
        simp only [e3, and_false, if_false]
        by_cases e4 : w = j
        · subst e4
          have : ¬ q = p := fun h => e ⟨h, rfl⟩
          simp [this]
        · by_cases e2 : j ≤ w
          · simp [show j + 1 ≤ w by omega, e2]
          · simp [show ¬ j + 1 ≤ w by omega, e2]
theorem c_mark {I : w_I} {a p x t : Nat} (hS : (SH u v)[a]? = some (.inl (0, 72))) (hp : p < 12) (hx : x < 64) : FnV Ω d mX6_mark [.ref (Ω.1 + a), .int (nI p), .int (nI x), .int (nI t)] (SH u v) I L (fun S' I' L' => S' = SH u v ∧ L = L' ∧ (∀ q w, w < 6 → I' a (q * 6 + w) = if q = p ∧ x.testBit w then t else I a (q * 6 + w)) ∧ Fr a (a + 1) I I') := by
  refine FnR_of okX6_mark (Nat.le_of_ble_eq_true rfl) fun l z => ?_
  show V _ _ _ _ _ _ _ _ 0 [(0, _), (1, _), (2, _), (3, _)] []
  refine V_cst 0 0 dX6_mark_0 rfl ?_
  refine V_istore 1 [(0, _), (1, _), (2, _), (3, _), (4, _)] dX6_mark_1 (by decide) rfl ?_
  refine mk_l hS hp hx 6 0 I (by omega) (fun I' h1 h2 => ?_)
  exact V_ret 35 dX6_mark_35 rfl ⟨rfl, rfl, fun q w hw => by rw [h2 q w hw]; simp, h1⟩
/-! findWhoMay -/
theorem y_m_lt {X m : Nat} (hP : s_POK P) (hX : X < 64) (hm : m < P 2 0) : y_m P X m < 64 := by
  unfold y_m
  split
  · exact or6 hX (s_both_lt hP hm)
  · exact hX
theorem tb_mI {x w : Nat} (hw : w < 32) : (x ^^^ mI).testBit w = !x.testBit w := by
  rw [Nat.testBit_xor, show mI = 2 ^ 32 - 1 from rfl, Nat.testBit_two_pow_sub_one]
  simp [hw]
theorem fm_in {h p mo nn X0 : Nat} {F0 : Nat → Nat} (hE : w_fit d E) (hP : s_POK P) (hh : h < 12) (hp : p < 12) (hmo : mo < 1200) : ∀ (n t : Nat) (X : Nat) (I : w_I), t + n = (s_mh P h).length → PRep 15 P I → ARep P I → X < 64 → (∀ w, X0.testBit w = true → X.testBit w = true) →
    (∀ w, w < 6 → I 52 (p * 6 + w) = if X0.testBit w then F0 w else if X.testBit w then mo else 1200) →
    (∀ I' X', X' = ((s_mh P h).drop t).foldl (y_m P) X → X' < 64 → (∀ w, w < 6 → I' 52 (p * 6 + w) = if X0.testBit w then F0 w else if X'.testBit w then mo else 1200) → (∀ q w, q ≠ p → w < 6 → I' 52 (q * 6 + w) = I 52 (q * 6 + w)) → Fr 52 53 I I' → V mX6_findWhoMay E Ω 0 0 (SH u v) I' L 168 [(0, .ref (Ω.1 + 50)), (1, .int (nI p)), (2, .int (nI X')), (3, .int (nI (y_fr P p))), (4, .int (nI nn)), (5, .int (nI mo)), (6, .int (nI h)), (7, .int (nI (s_hs P h + (t + n))))] []) →
    V mX6_findWhoMay E Ω 0 0 (SH u v) I L 98 [(0, .ref (Ω.1 + 50)), (1, .int (nI p)), (2, .int (nI X)), (3, .int (nI (y_fr P p))), (4, .int (nI nn)), (5, .int (nI mo)), (6, .int (nI h)), (7, .int (nI (s_hs P h + t)))] [] := by
  have h12 := hP.2.2.1
  have hle := s_hs_le hP (h := h + 1) (by omega)
  have hss := s_hs_succ P h
  intro n
  induction n with
  | zero =>
    intro t X I ht hR hA hX hX0 hF hk
    refine V_iload 98 7 dX6_findWhoMay_98 rfl ?_
    refine V_aload_n 100 0 dX6_findWhoMay_100 rfl ?_
    refine V_getR 101 flX6_21 dX6_findWhoMay_101 rfl ?_
    refine V_getR 104 flX6_86 dX6_findWhoMay_104 rfl ?_
    refine V_iload 107 6 dX6_findWhoMay_107 rfl ?_
    refine V_cst 109 1 dX6_findWhoMay_109 rfl ?_
    refine V_add 110 dX6_findWhoMay_110 ?_
    refine V_iald 111 dX6_findWhoMay_111 rfl (by omega) (by omega) ?_
    rw [hA.2 (h + 1) (by omega)]
    refine V_cN_ge 112 168 dX6_findWhoMay_112 (by decide) (by omega) (by omega) (fun c => ?_) (fun c => ?_)
    · exact hk I X (by rw [List.drop_of_length_le (by omega)]; rfl) hX hF (fun _ _ _ _ => rfl) Fr.rf
    · omega
  | succ n ih =>
    intro t X I ht hR hA hX hX0 hF hk
    have htl : t < (s_mh P h).length := by omega
    have hpo : s_hs P h + t < (s_ord P).length := by rw [s_ord_len hP]; omega
    have hat : (s_ord P).getD (s_hs P h + t) 0 = (s_mh P h).getD t 0 := by
      rw [List.getD_eq_getElem?_getD, List.getD_eq_getElem?_getD, s_ord_at hh htl]
    have hm : (s_mh P h).getD t 0 < P 2 0 := by rw [← hat]; exact s_ord_getD_lt hP (by omega)
    have hb := s_both_lt hP hm
    refine V_iload 98 7 dX6_findWhoMay_98 rfl ?_
    refine V_aload_n 100 0 dX6_findWhoMay_100 rfl ?_
    refine V_getR 101 flX6_21 dX6_findWhoMay_101 rfl ?_
    refine V_getR 104 flX6_86 dX6_findWhoMay_104 rfl ?_
    refine V_iload 107 6 dX6_findWhoMay_107 rfl ?_
    refine V_cst 109 1 dX6_findWhoMay_109 rfl ?_
    refine V_add 110 dX6_findWhoMay_110 ?_
    refine V_iald 111 dX6_findWhoMay_111 rfl (by omega) (by omega) ?_
    rw [hA.2 (h + 1) (by omega)]
    refine V_cN_ge 112 168 dX6_findWhoMay_112 (by decide) (by omega) (by omega) (fun c => ?_) (fun c => ?_)
    · omega
    refine V_aload_n 115 0 dX6_findWhoMay_115 rfl ?_
    refine V_getR 116 flX6_21 dX6_findWhoMay_116 rfl ?_
    refine V_aload_n 119 0 dX6_findWhoMay_119 rfl ?_
    refine V_getR 120 flX6_21 dX6_findWhoMay_120 rfl ?_
    refine V_getR 123 flX6_89 dX6_findWhoMay_123 rfl ?_
    refine V_iload 126 7 dX6_findWhoMay_126 rfl ?_
    refine V_iald 128 dX6_findWhoMay_128 rfl (by omega) (by omega) ?_
    rw [hA.1 _ (by omega), hat]
    refine V_vi 129 mvX6_92 dX6_findWhoMay_129 ⟨_, _, _, rfl, rfl, rfl⟩ (w_fit.mono (by omega) hE) (c_bothOf (d := d) hP hR hm) rfl (Nat.le_of_ble_eq_true rfl) ?_
    rintro _ _ _ _ ⟨rfl, rfl, rfl, rfl⟩
    refine V_istore 132 [(0, _), (1, _), (2, _), (3, _), (4, _), (5, _), (6, _), (7, _), (8, _)] dX6_findWhoMay_132 (by decide) rfl ?_
    refine V_iload_n 134 2 dX6_findWhoMay_134 rfl ?_
    refine V_iload 135 8 dX6_findWhoMay_135 rfl ?_
    refine V_and 137 dX6_findWhoMay_137 ?_
    refine V_zN_eq 138 162 dX6_findWhoMay_138 (by decide) (and_lt1 (by omega)) (fun c1 => ?_) (fun c1 => ?_)
    · refine V_inc 162 7 _ [(0, _), (1, _), (2, _), (3, _), (4, _), (5, _), (6, _), (7, _), (8, _)] dX6_findWhoMay_162 rfl rfl rfl (by decide) rfl ?_
      refine V_goto 165 98 dX6_findWhoMay_165 (by decide) ?_
      refine V_sub [(0, _), (1, _), (2, _), (3, _), (4, _), (5, _), (6, _), (7, _)] [0, 1, 2, 3, 4, 5, 6, 7] rfl ?_
      rw [Nat.add_assoc]
      refine ih (t + 1) X I (by omega) hR hA hX hX0 hF (fun I' X' g1 g2 g3 g4 g5 => ?_)
      rw [show t + 1 + n = t + (n + 1) by omega]
      refine hk I' X' ?_ g2 g3 g4 g5
      rw [g1, foldl_drop_succ _ _ htl]
      congr 1
      unfold y_m
      rw [if_neg (fun e => e c1)]
    · refine V_aload_n 141 0 dX6_findWhoMay_141 rfl ?_
      refine V_getR 142 flX6_15 dX6_findWhoMay_142 rfl ?_
      refine V_iload_n 145 1 dX6_findWhoMay_145 rfl ?_
      refine V_iload 146 8 dX6_findWhoMay_146 rfl ?_
      refine V_iload_n 148 2 dX6_findWhoMay_148 rfl ?_
      refine V_cst 149 4294967295 dX6_findWhoMay_149 rfl ?_
      refine V_xor 150 dX6_findWhoMay_150 ?_
      refine V_and 151 dX6_findWhoMay_151 ?_
      refine V_iload 152 5 dX6_findWhoMay_152 rfl ?_
      refine V_sv 154 msX6_76 dX6_findWhoMay_154 (w_fit.mono (by omega) hE) (c_mark (d := d) (a := 52) (p := p) (t := mo) rfl hp (x := s_both P ((s_mh P h).getD t 0) &&& (X ^^^ mI)) (and_lt1 hb)) rfl (Nat.le_of_ble_eq_true rfl) ?_
      rintro _ I1 _ ⟨rfl, rfl, g1, g2⟩
      have e1 : y_m P X ((s_mh P h).getD t 0) = X ||| s_both P ((s_mh P h).getD t 0) := by unfold y_m; rw [if_pos c1]
      refine V_iload_n 157 2 dX6_findWhoMay_157 rfl ?_
      refine V_iload 158 8 dX6_findWhoMay_158 rfl ?_
      refine V_or 160 dX6_findWhoMay_160 ?_
      refine V_istore_n 161 [(0, _), (1, _), (2, _), (3, _), (4, _), (5, _), (6, _), (7, _), (8, _)] dX6_findWhoMay_161 (by decide) rfl ?_
      refine V_inc 162 7 _ [(0, _), (1, _), (2, _), (3, _), (4, _), (5, _), (6, _), (7, _), (8, _)] dX6_findWhoMay_162 rfl rfl rfl (by decide) rfl ?_
      refine V_goto 165 98 dX6_findWhoMay_165 (by decide) ?_
      refine V_sub [(0, _), (1, _), (2, _), (3, _), (4, _), (5, _), (6, _), (7, _)] [0, 1, 2, 3, 4, 5, 6, 7] rfl ?_
      rw [Nat.add_assoc]
      refine ih (t + 1) _ I1 (by omega) (hR.fr g2 (by decide)) (hA.fr g2 (by decide)) (or6 hX hb) (fun w hw => by rw [Nat.testBit_or, hX0 w hw]; rfl) (fun w hw => ?_) (fun I' X' k1 k2 k3 k4 k5 => ?_)
      · rw [g1 p w hw, hF w hw, Nat.testBit_and, tb_mI (by omega), Nat.testBit_or]
        have := hX0 w
        cases h1 : X0.testBit w <;> cases h2 : X.testBit w <;> cases h3 : (s_both P ((s_mh P h).getD t 0)).testBit w <;> simp_all
      · rw [show t + 1 + n = t + (n + 1) by omega]
        refine hk I' X' ?_ k2 k3 (fun q w hq hw => ?_) (g2.trans k5)
        · rw [k1, foldl_drop_succ _ _ htl, e1]
        · rw [k4 q w hq hw, g1 q w hw, if_neg (fun e => hq e.1)]
theorem y_fr_lt {p : Nat} (hP : s_POK P) (hp : p < P 6 0) : y_fr P p < 1200 := by
  obtain ⟨q1, q2, q3, q4, q5, q6⟩ := hP.2.2.2.2.2 p hp
  unfold y_fr
  omega
theorem y_0_lt {p : Nat} (hP : s_POK P) (hp : p < P 6 0) : y_0 P p < 64 := by
  obtain ⟨q1, q2, q3, q4, q5, q6⟩ := hP.2.2.2.2.2 p hp
  have := hP.1.2
  exact or6 (p6 (by omega)) (p6 (by omega))
theorem fm_out {p nn : Nat} (hE : w_fit d E) (hP : s_POK P) (hp : p < P 6 0) (hnn : nn ≤ 1200) : ∀ (n t : Nat) (I : w_I), y_fr P p + t + n = nn → PRep 15 P I → ARep P I → y_S P p t < 64 →
    (∀ w, w < 6 → I 52 (p * 6 + w) = y_F P p t w) → (∀ w, (y_S P p t).testBit w = false → y_F P p t w = 1200) →
    (∀ I' X', (∀ w, w < 6 → I' 52 (p * 6 + w) = y_F P p (t + n) w) → (∀ q w, q ≠ p → w < 6 → I' 52 (q * 6 + w) = I 52 (q * 6 + w)) → Fr 52 53 I I' → V mX6_findWhoMay E Ω 0 0 (SH u v) I' L 174 [(0, .ref (Ω.1 + 50)), (1, .int (nI p)), (2, .int (nI X')), (3, .int (nI (y_fr P p))), (4, .int (nI nn)), (5, .int (nI nn))] []) →
    V mX6_findWhoMay E Ω 0 0 (SH u v) I L 72 [(0, .ref (Ω.1 + 50)), (1, .int (nI p)), (2, .int (nI (y_S P p t))), (3, .int (nI (y_fr P p))), (4, .int (nI nn)), (5, .int (nI (y_fr P p + t)))] [] := by
  have hp12 := hP.2.2.2.2.1
  intro n
  induction n with
  | zero =>
    intro t I ht hR hA hX hF hF0 hk
    have e : y_fr P p + t = nn := by omega
    rw [e]
    refine V_iload 72 5 dX6_findWhoMay_72 rfl ?_
    refine V_iload 74 4 dX6_findWhoMay_74 rfl ?_
    refine V_cN_ge 76 174 dX6_findWhoMay_76 (by decide) (by omega) (by omega) (fun c => ?_) (fun c => ?_)
    · exact hk I _ hF (fun _ _ _ _ => rfl) Fr.rf
    · omega
  | succ n ih =>
    intro t I ht hR hA hX hF hF0 hk
    have hle := s_hs_le hP (h := (y_fr P p + t) % 12) (by omega)
    have h12 := hP.2.2.1
    refine V_iload 72 5 dX6_findWhoMay_72 rfl ?_
    refine V_iload 74 4 dX6_findWhoMay_74 rfl ?_
    refine V_cN_ge 76 174 dX6_findWhoMay_76 (by decide) (by omega) (by omega) (fun c => ?_) (fun c => ?_)
    · omega
    refine V_iload 79 5 dX6_findWhoMay_79 rfl ?_
    refine V_bip 81 12 dX6_findWhoMay_81 rfl ?_
    refine V_rem 83 dX6_findWhoMay_83 (by omega) (by omega) (by omega) ?_
    refine V_istore 84 [(0, _), (1, _), (2, _), (3, _), (4, _), (5, _), (6, _)] dX6_findWhoMay_84 (by decide) rfl ?_
    refine V_aload_n 86 0 dX6_findWhoMay_86 rfl ?_
    refine V_getR 87 flX6_21 dX6_findWhoMay_87 rfl ?_
    refine V_getR 90 flX6_86 dX6_findWhoMay_90 rfl ?_
    refine V_iload 93 6 dX6_findWhoMay_93 rfl ?_
    refine V_iald 95 dX6_findWhoMay_95 rfl (by omega) (by omega) ?_
    rw [hA.2 _ (by omega)]
    refine V_istore 96 [(0, _), (1, _), (2, _), (3, _), (4, _), (5, _), (6, _), (7, _)] dX6_findWhoMay_96 (by decide) rfl ?_
    refine fm_in (mo := y_fr P p + t) (X0 := y_S P p t) (F0 := y_F P p t) hE hP (by omega) (by omega) (by omega) (s_mh P ((y_fr P p + t) % 12)).length 0 (y_S P p t) I (by omega) hR hA hX (fun _ h => h) (fun w hw => ?_) (fun I' X' g1 g2 g3 g4 g5 => ?_)
    · rw [hF w hw]
      cases h1 : (y_S P p t).testBit w
      · simp [hF0 w h1]
      · simp
    · rw [List.drop_zero] at g1
      have g1 : X' = y_S P p (t + 1) := g1
      subst g1
      refine V_inc 168 5 _ [(0, _), (1, _), (2, _), (3, _), (4, _), (5, _), (6, _), (7, _)] dX6_findWhoMay_168 rfl rfl rfl (by decide) rfl ?_
      refine V_goto 171 72 dX6_findWhoMay_171 (by decide) ?_
      refine V_sub [(0, _), (1, _), (2, _), (3, _), (4, _), (5, _)] [0, 1, 2, 3, 4, 5] rfl ?_
      refine ih (t + 1) I' (by omega) (hR.fr g5 (by decide)) (hA.fr g5 (by decide)) g2 (fun w hw => g3 w hw) (fun w hw => ?_) (fun I'' X'' k1 k2 k3 => ?_)
      · show (if (y_S P p t).testBit w then y_F P p t w else if (y_S P p (t + 1)).testBit w then y_fr P p + t else 1200) = 1200
        rw [hw]
        cases h1 : (y_S P p t).testBit w
        · simp
        · exfalso
          have key : ∀ (l : List Nat) (X : Nat), X.testBit w = true → (l.foldl (y_m P) X).testBit w = true := by
            intro l
            induction l with
            | nil => intro X h; exact h
            | cons x l ih2 =>
              intro X h
              refine ih2 _ ?_
              unfold y_m
              split
              · rw [Nat.testBit_or, h]; rfl
              · exact h
          have := key (s_mh P ((y_fr P p + t) % 12)) _ h1
          rw [show (s_mh P ((y_fr P p + t) % 12)).foldl (y_m P) (y_S P p t) = y_S P p (t + 1) from rfl, hw] at this
          exact absurd this (by decide)
      · refine hk I'' X'' (fun w hw => by rw [k1 w hw, show t + 1 + n = t + (n + 1) by omega]) (fun q w hq hw => by rw [k2 q w hq hw, g4 q w hq hw]) (g5.trans k3)
def y_N (P : w_R) (p : Nat) : Nat := min 1200 (y_fr P p + 72) - y_fr P p
theorem c_findWhoMay {I : w_I} {p : Nat} (hP : s_POK P) (hR : PRep 15 P I) (hA : ARep P I) (hp : p < P 6 0) (hF : ∀ w, w < 6 → I 52 (p * 6 + w) = 1200) : FnV Ω (d + 1) mX6_findWhoMay [.ref (Ω.1 + 50), .int (nI p)] (SH u v) I L (fun S' I' L' => S' = SH u v ∧ L = L' ∧ (∀ w, w < 6 → I' 52 (p * 6 + w) = y_F P p (y_N P p) w) ∧ (∀ q w, q ≠ p → w < 6 → I' 52 (q * 6 + w) = I 52 (q * 6 + w)) ∧ Fr 52 53 I I') := by
  have hp12 := hP.2.2.2.2.1
  have h6 := hP.1.2
  have hfr := y_fr_lt hP hp
  have h0 := y_0_lt hP hp
  obtain ⟨q1, q2, q3, q4, q5, q6⟩ := hP.2.2.2.2.2 p hp
  obtain ⟨r1, r2, r3, r4, r5⟩ := hR.2.2.2.2.2 p hp
  refine FnR_of okX6_findWhoMay (Nat.le_of_ble_eq_true rfl) fun l z => ?_
  have hE : w_fit d (w_Er l (d + 1) 0 0 Ω (w_pv (fun S' I' L' => S' = SH u v ∧ L = L' ∧ (∀ w, w < 6 → I' 52 (p * 6 + w) = y_F P p (y_N P p) w) ∧ (∀ q w, q ≠ p → w < 6 → I' 52 (q * 6 + w) = I 52 (q * 6 + w)) ∧ Fr 52 53 I I')) z) := w_fit_r
  show V _ _ _ _ _ _ _ _ 0 [(0, _), (1, _)] []
  refine V_cst 0 1 dX6_findWhoMay_0 rfl ?_
  refine V_aload_n 1 0 dX6_findWhoMay_1 rfl ?_
  refine V_getR 2 flX6_21 dX6_findWhoMay_2 rfl ?_
  refine V_getR 5 flX6_64 dX6_findWhoMay_5 rfl ?_
  refine V_iload_n 8 1 dX6_findWhoMay_8 rfl ?_
  refine V_iald 9 dX6_findWhoMay_9 rfl (by omega) (by omega) ?_
  rw [r1]
  refine V_shl 10 dX6_findWhoMay_10 (by omega) ?_
  refine V_cst 11 1 dX6_findWhoMay_11 rfl ?_
  refine V_aload_n 12 0 dX6_findWhoMay_12 rfl ?_
  refine V_getR 13 flX6_21 dX6_findWhoMay_13 rfl ?_
  refine V_getR 16 flX6_67 dX6_findWhoMay_16 rfl ?_
  refine V_iload_n 19 1 dX6_findWhoMay_19 rfl ?_
  refine V_iald 20 dX6_findWhoMay_20 rfl (by omega) (by omega) ?_
  rw [r2]
  refine V_shl 21 dX6_findWhoMay_21 (by omega) ?_
  refine V_or 22 dX6_findWhoMay_22 ?_
  refine V_istore_n 23 [(0, _), (1, _), (2, _)] dX6_findWhoMay_23 (by decide) rfl ?_
  refine V_aload_n 24 0 dX6_findWhoMay_24 rfl ?_
  refine V_getR 25 flX6_21 dX6_findWhoMay_25 rfl ?_
  refine V_getR 28 flX6_70 dX6_findWhoMay_28 rfl ?_
  refine V_iload_n 31 1 dX6_findWhoMay_31 rfl ?_
  refine V_iald 32 dX6_findWhoMay_32 rfl (by omega) (by omega) ?_
  rw [r3]
  refine V_bip 33 12 dX6_findWhoMay_33 rfl ?_
  refine V_mul 35 dX6_findWhoMay_35 ?_
  refine V_aload_n 36 0 dX6_findWhoMay_36 rfl ?_
  refine V_getR 37 flX6_21 dX6_findWhoMay_37 rfl ?_
  refine V_getR 40 flX6_73 dX6_findWhoMay_40 rfl ?_
  refine V_iload_n 43 1 dX6_findWhoMay_43 rfl ?_
  refine V_iald 44 dX6_findWhoMay_44 rfl (by omega) (by omega) ?_
  rw [r4]
  refine V_add 45 dX6_findWhoMay_45 ?_
  refine V_istore_n 46 [(0, _), (1, _), (2, _), (3, _)] dX6_findWhoMay_46 (by decide) rfl ?_
  refine V_aload_n 47 0 dX6_findWhoMay_47 rfl ?_
  refine V_getR 48 flX6_15 dX6_findWhoMay_48 rfl ?_
  refine V_iload_n 51 1 dX6_findWhoMay_51 rfl ?_
  refine V_iload_n 52 2 dX6_findWhoMay_52 rfl ?_
  refine V_iload_n 53 3 dX6_findWhoMay_53 rfl ?_
  rw [Nat.one_mul, Nat.one_mul, show P 9 p * 12 + P 10 p = y_fr P p from rfl, show 2 ^ P 7 p ||| 2 ^ P 8 p = y_0 P p from rfl]
  refine V_sv 54 msX6_76 dX6_findWhoMay_54 (w_fit.mono (by omega) hE) (c_mark (d := d) (a := 52) (p := p) (t := y_fr P p) rfl (by omega) (x := y_0 P p) h0) rfl (Nat.le_of_ble_eq_true rfl) ?_
  rintro _ I1 _ ⟨rfl, rfl, g1, g2⟩
  refine V_sip 57 1200 dX6_findWhoMay_57 rfl ?_
  refine V_iload_n 60 3 dX6_findWhoMay_60 rfl ?_
  refine V_bip 61 72 dX6_findWhoMay_61 rfl ?_
  refine V_add 63 dX6_findWhoMay_63 ?_
  refine V_mini 64 (by omega) (by omega) mnX6_80 dX6_findWhoMay_64 (w_fit.mono (by omega) hE) (Nat.le_of_ble_eq_true rfl) ?_
  refine V_istore 67 [(0, _), (1, _), (2, _), (3, _), (4, _)] dX6_findWhoMay_67 (by decide) rfl ?_
  refine V_iload_n 69 3 dX6_findWhoMay_69 rfl ?_
  refine V_istore 70 [(0, _), (1, _), (2, _), (3, _), (4, _), (5, _)] dX6_findWhoMay_70 (by decide) rfl ?_
  refine fm_out (nn := min 1200 (y_fr P p + 72)) hE hP hp (by omega) (y_N P p) 0 I1 (by unfold y_N; omega) (hR.fr g2 (by decide)) (hA.fr g2 (by decide)) h0 (fun w hw => ?_) (fun w hw => ?_) (fun I' X' k1 k2 k3 => ?_)
  · rw [g1 p w hw, hF w hw]
    simp only [true_and]
    rfl
  · show (if (y_0 P p).testBit w then y_fr P p else 1200) = 1200
    rw [show (y_0 P p).testBit w = false from hw]
    rfl
  · refine V_ret 174 dX6_findWhoMay_174 rfl ⟨rfl, rfl, fun w hw => by rw [k1 w hw, Nat.zero_add], fun q w hq hw => ?_, g2.trans k3⟩
    rw [k2 q w hq hw, g1 q w hw, if_neg (fun e => hq e.1)]
end
