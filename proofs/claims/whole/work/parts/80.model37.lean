section
variable {P : w_R} {K si : Nat} {w : Nat → Nat}
theorem metL_bit (P : w_R) (x : Nat) : ∀ (A : List Nat) (a : Nat), (A.foldl (fun a m => a ||| s_both P m) a).testBit x = true ↔ (a.testBit x = true ∨ ∃ m, m ∈ A ∧ (s_both P m).testBit x = true) := by
  intro A
  induction A with
  | nil => intro a; constructor; exact Or.inl; rintro (h | ⟨m, h, -⟩); exact h; exact absurd h (List.not_mem_nil)
  | cons m A ih =>
    intro a
    show (A.foldl (fun a m => a ||| s_both P m) (a ||| s_both P m)).testBit x = true ↔ _
    rw [ih, Nat.testBit_or, Bool.or_eq_true]
    constructor
    · rintro ((h | h) | ⟨m', h1, h2⟩)
      · exact Or.inl h
      · exact Or.inr ⟨m, List.mem_cons_self .., h⟩
      · exact Or.inr ⟨m', List.mem_cons_of_mem _ h1, h2⟩
    · rintro (h | ⟨m', h1, h2⟩)
      · exact Or.inl (Or.inl h)
      · rcases List.mem_cons.mp h1 with e | e
        · subst e; exact Or.inl (Or.inr h2)
        · exact Or.inr ⟨m', e, h2⟩
theorem met_bit (hP : s_POK P) (x : Nat) : (s_met P).testBit x = true ↔ ∃ j, j < P 2 0 ∧ (x = P 3 (r_m P j) ∨ x = P 4 (r_m P j)) := by
  unfold s_met s_metL
  rw [metL_bit, Nat.zero_testBit]
  have hb : ∀ m, (s_both P m).testBit x = true ↔ (x = P 3 m ∨ x = P 4 m) := by
    intro m
    unfold s_both
    rw [Nat.testBit_or, tb_p, tb_p, Bool.or_eq_true]
    constructor
    · rintro (h | h)
      · exact Or.inl (of_decide_eq_true h).symm
      · exact Or.inr (of_decide_eq_true h).symm
    · rintro (h | h)
      · exact Or.inl (decide_eq_true h.symm)
      · exact Or.inr (decide_eq_true h.symm)
  constructor
  · rintro (h | ⟨m, h1, h2⟩)
    · exact absurd h (by decide)
    · obtain ⟨j, hj, e⟩ := mem_getD h1
      rw [s_ord_len hP] at hj
      refine ⟨j, hj, ?_⟩
      have : r_m P j = m := e
      rw [this]
      exact (hb m).mp h2
  · rintro ⟨j, hj, e⟩
    right
    refine ⟨r_m P j, getD_mem (by rw [s_ord_len hP]; exact hj), (hb _).mpr e⟩
/-- who says it first -/
theorem r_first (hP : s_POK P) : ∀ j, j ≤ P 2 0 → ∀ h s a c r, rR P K si w j h s a c r → h ≠ 0 → ∃ x, K.testBit x = true ∧ (s_met P).testBit x = true ∧ si.testBit x = false := by
  intro j
  induction j with
  | zero =>
    rintro _ h s a c r ⟨rfl, -⟩ hne
    exact absurd rfl hne
  | succ j ih =>
    rintro hj h' s' a' c' r' ⟨h, s, a, c, r, hR, hs⟩ hne
    by_cases h0 : h = 0
    · subst h0
      rcases hs with ⟨rfl, -⟩ | ⟨b, hb, hk, -⟩
      · exact absurd rfl hne
      · have h1 := hk.1
        rw [Nat.testBit_or, Bool.or_eq_false_iff] at h1
        have h2 := hk.2
        rw [Nat.or_zero] at h2
        refine ⟨r_w P j b, h2, (met_bit hP _).mpr ⟨j, by omega, ?_⟩, h1.2⟩
        unfold r_w
        split
        · exact Or.inl rfl
        · exact Or.inr rfl
    · exact ih (by omega) h s a c r hR h0
theorem r_idle : ∀ j, rR P K si w j 0 0 0 0 0 := by
  intro j
  induction j with
  | zero => exact ⟨rfl, rfl, rfl, rfl, rfl⟩
  | succ j ih =>
    have := ih.no
    have e : r_s P (j + 1) 0 = 0 := by unfold r_s; split <;> rfl
    rw [e] at this
    exact this
theorem r_rest {j h s a c r : Nat} (hR : rR P K si w j h s a c r) : ∀ t, ∃ s', rR P K si w (j + t) h s' a c r := by
  intro t
  induction t with
  | zero => exact ⟨s, hR⟩
  | succ t ih =>
    obtain ⟨s', h'⟩ := ih
    exact ⟨_, h'.no⟩
/-- and whoever can say it does -/
theorem r_alive (hP : s_POK P) {x : Nat} (h1 : K.testBit x = true) (h2 : (s_met P).testBit x = true) (h3 : si.testBit x = false) : ∃ h s c r, rR P K si w (P 2 0) h s 1 c r ∧ h.testBit x = true := by
  obtain ⟨j, hj, e⟩ := (met_bit hP x).mp h2
  have go : ∀ b, (b = 1 ∨ b = 2) → r_w P j b = x → ∃ h s c r, rR P K si w (P 2 0) h s 1 c r ∧ h.testBit x = true := by
    intro b hb hx
    have hR := (r_idle (P := P) (K := K) (si := si) (w := w) j).yes hb ⟨by rw [hx, Nat.zero_or]; exact h3, by rw [hx, Nat.or_zero]; exact h1⟩
    have ea : r_a P j b 0 0 = 1 := by unfold r_a; rw [if_pos (Or.inr (Nat.zero_testBit _))]
    rw [ea] at hR
    obtain ⟨s', h'⟩ := r_rest hR (P 2 0 - (j + 1))
    rw [show j + 1 + (P 2 0 - (j + 1)) = P 2 0 by omega] at h'
    refine ⟨_, _, _, _, h', ?_⟩
    unfold r_h
    rw [Nat.testBit_or, Nat.testBit_or, tb_p, tb_p, hx]
    simp
  rcases e with e | e
  · exact go 1 (Or.inl rfl) (by unfold r_w; rw [if_pos rfl]; exact e.symm)
  · exact go 2 (Or.inr rfl) (by unfold r_w; rw [if_neg (by decide)]; exact e.symm)
/-- somebody can keep it -/
def r_al (P : w_R) (K si : Nat) : Prop := (K &&& s_met P) &&& (si ^^^ mI) ≠ 0
theorem r_al_iff {K si : Nat} (hK : K < 64) : r_al P K si ↔ ∃ x, x < 6 ∧ K.testBit x = true ∧ (s_met P).testBit x = true ∧ si.testBit x = false := by
  unfold r_al
  constructor
  · intro h
    obtain ⟨x, hx⟩ := Nat.exists_testBit_of_ne_zero h
    rw [Nat.testBit_and, Nat.testBit_and, Bool.and_eq_true, Bool.and_eq_true] at hx
    have hx6 : x < 6 := by
      rcases Nat.lt_or_ge x 6 with q | q
      · exact q
      · have := Nat.testBit_lt_two_pow (Nat.lt_of_lt_of_le hK (Nat.pow_le_pow_right (n := 2) (by decide) q))
        rw [hx.1.1] at this
        exact absurd this (by decide)
    refine ⟨x, hx6, hx.1.1, hx.1.2, ?_⟩
    have := hx.2
    rw [tb_mI (by omega)] at this
    simpa using this
  · rintro ⟨x, h6, h1, h2, h3⟩ e
    have : ((K &&& s_met P) &&& (si ^^^ mI)).testBit x = true := by rw [Nat.testBit_and, Nat.testBit_and, h1, h2, tb_mI (by omega), h3]; rfl
    rw [e, Nat.zero_testBit] at this
    exact absurd this (by decide)
end
section
variable {Ω : w_O} {d u v : Nat} {L : w_L} {E : w_E} {P : w_R}
/-- a day leads from k to q -/
def Dk (I : w_I) (st k q : Nat) : Prop := I 88 k = 1 ∧ 1 ≤ q ∧ q < st ∧ I 93 (64 * k + q) ≠ NVR
def Ek (I : w_I) (st k h q : Nat) : Prop := ∃ k', Dk I st k' q ∧ (k' < k ∨ (k' = k ∧ q < h))
/-- what is known before the pair k, h -/
def Ik (I J : w_I) (st k h so : Nat) : Prop := (∀ q, q < st → (J 89 q = 1 ∧ Ek I st k h q) ∨ (J 89 q = 0 ∧ ¬ Ek I st k h q)) ∧ ((so = 1 ∧ ∃ q, Ek I st k h q) ∨ (so = 0 ∧ ¬ ∃ q, Ek I st k h q))
theorem Ik.no {I J : w_I} {st k h so : Nat} (h0 : Ik I J st k h so) (hn : ¬ Dk I st k h) : Ik I J st k (h + 1) so := by
  have e : ∀ q, Ek I st k (h + 1) q ↔ Ek I st k h q := by
    intro q
    constructor
    · rintro ⟨k', a, b⟩
      refine ⟨k', a, ?_⟩
      rcases b with b | ⟨b1, b2⟩
      · exact Or.inl b
      · by_cases e : q = h
        · subst e; subst b1; exact absurd a hn
        · exact Or.inr ⟨b1, by omega⟩
    · rintro ⟨k', a, b⟩
      exact ⟨k', a, by omega⟩
  unfold Ik
  simp only [e]
  exact h0
theorem Ik.yes {I J : w_I} {st k h so : Nat} (h0 : Ik I J st k h so) (hn : Dk I st k h) : Ik I (w_put J 89 h 1) st k (h + 1) 1 := by
  refine ⟨fun q hq => ?_, Or.inl ⟨rfl, h, k, hn, Or.inr ⟨rfl, by omega⟩⟩⟩
  by_cases e : q = h
  · subst e
    exact Or.inl ⟨w_put_same _ _ _ _, k, hn, Or.inr ⟨rfl, by omega⟩⟩
  · rw [w_put_other _ (Or.inr e)]
    rcases h0.1 q hq with ⟨a, k', b, c⟩ | ⟨a, b⟩
    · exact Or.inl ⟨a, k', b, by omega⟩
    · refine Or.inr ⟨a, ?_⟩
      rintro ⟨k', c1, c2⟩
      exact b ⟨k', c1, by omega⟩
theorem Ik.next {I J : w_I} {st k h so : Nat} (h0 : Ik I J st k h so) (hn : h = st ∨ I 88 k ≠ 1) : Ik I J st (k + 1) 1 so := by
  have e : ∀ q, Ek I st (k + 1) 1 q ↔ Ek I st k h q := by
    intro q
    constructor
    · rintro ⟨k', a, b⟩
      obtain ⟨a1, a2, a3, a4⟩ := a
      by_cases e : k' = k
      · subst e
        rcases hn with hn | hn
        · exact ⟨k', ⟨a1, a2, a3, a4⟩, Or.inr ⟨rfl, by omega⟩⟩
        · exact absurd a1 hn
      · exact ⟨k', ⟨a1, a2, a3, a4⟩, by omega⟩
    · rintro ⟨k', a, b⟩
      exact ⟨k', a, by omega⟩
  unfold Ik
  simp only [e]
  exact h0
theorem do_in {K si mo dd k : Nat} {I : w_I} (hP : s_POK P) (hk : k < 64) (hv : I 88 k = 1 → ∀ q, q < 64 → I 93 (64 * k + q) ≤ NVR) (h01 : I 88 k = 0 ∨ I 88 k = 1) : ∀ (n h so : Nat) (J : w_I), 1 ≤ h → h + n = 2 ^ P 0 0 → J 88 = I 88 → J 93 = I 93 → Ik I J (2 ^ P 0 0) k h so →
    (∀ J' so' x, (∀ i, i ≠ 89 → J' i = J i) → Ik I J' (2 ^ P 0 0) (k + 1) 1 so' → V mX8_daysOf E Ω 0 0 (SH u v) J' L 161 [(0, .ref (Ω.1 + 63)), (1, .int (nI K)), (2, .int (nI si)), (3, .int (nI mo)), (4, .int (nI (2 ^ P 0 0))), (5, .int (nI dd)), (6, .int (nI so')), (7, .int (nI k)), (8, .int (nI x))] []) →
    V mX8_daysOf E Ω 0 0 (SH u v) J L 104 [(0, .ref (Ω.1 + 63)), (1, .int (nI K)), (2, .int (nI si)), (3, .int (nI mo)), (4, .int (nI (2 ^ P 0 0))), (5, .int (nI dd)), (6, .int (nI so)), (7, .int (nI k)), (8, .int (nI h))] [] := by
  have h6 := hP.1.2
  have h64 : 2 ^ P 0 0 ≤ 64 := Nat.pow_le_pow_right (n := 2) (j := 6) (by decide) h6
  have hNV : NVR = 1000000000 := rfl
  intro n
  induction n with
  | zero =>
    intro h so J h1 hh j1 j2 hI hkk
    refine V_iload 104 8 dX8_daysOf_104 rfl ?_
    refine V_iload 106 4 dX8_daysOf_106 rfl ?_
    refine V_cN_ge 108 161 dX8_daysOf_108 (by decide) (by omega) (by omega) (fun c => ?_) (fun c => ?_)
    · exact hkk J so h (fun _ _ => rfl) (hI.next (Or.inl (by omega)))
    · omega
  | succ n ih =>
    intro h so J h1 hh j1 j2 hI hkk
    refine V_iload 104 8 dX8_daysOf_104 rfl ?_
    refine V_iload 106 4 dX8_daysOf_106 rfl ?_
    refine V_cN_ge 108 161 dX8_daysOf_108 (by decide) (by omega) (by omega) (fun c => ?_) (fun c => ?_)
    · omega
    refine V_aload_n 111 0 dX8_daysOf_111 rfl ?_
    refine V_getR 112 flX8_87 dX8_daysOf_112 rfl ?_
    refine V_iload 115 7 dX8_daysOf_115 rfl ?_
    refine V_iald 117 dX8_daysOf_117 rfl (by omega) (by omega) ?_
    rw [j1]
    refine V_cst 118 1 dX8_daysOf_118 rfl ?_
    refine V_cN_ne 119 161 dX8_daysOf_119 (by decide) (by omega) (by omega) (fun c1 => ?_) (fun c1 => ?_)
    · exact hkk J so h (fun _ _ => rfl) (hI.next (Or.inr c1))
    have hle := hv c1 h (by omega)
    refine V_aload_n 122 0 dX8_daysOf_122 rfl ?_
    refine V_getR 123 flX8_103 dX8_daysOf_123 rfl ?_
    refine V_bip 126 64 dX8_daysOf_126 rfl ?_
    refine V_iload 128 7 dX8_daysOf_128 rfl ?_
    refine V_mul 130 dX8_daysOf_130 ?_
    refine V_iload 131 8 dX8_daysOf_131 rfl ?_
    refine V_add 133 dX8_daysOf_133 ?_
    refine V_iald 134 dX8_daysOf_134 rfl (by omega) (by omega) ?_
    rw [j2]
    refine V_ldcwN 135 1000000000 kcX8_301 dX8_daysOf_135 rfl ?_
    refine V_cN_ne 138 144 dX8_daysOf_138 (by decide) (by omega) (by omega) (fun c2 => ?_) (fun c2 => ?_)
    · refine V_aload_n 144 0 dX8_daysOf_144 rfl ?_
      refine V_getR 145 flX8_90 dX8_daysOf_145 rfl ?_
      refine V_iload 148 8 dX8_daysOf_148 rfl ?_
      refine V_cst 150 1 dX8_daysOf_150 rfl ?_
      refine V_iast 151 dX8_daysOf_151 rfl (by omega) (by omega) ?_
      refine V_cst 152 1 dX8_daysOf_152 rfl ?_
      refine V_istore 153 [(0, _), (1, _), (2, _), (3, _), (4, _), (5, _), (6, _), (7, _), (8, _)] dX8_daysOf_153 (by decide) rfl ?_
      refine V_inc 155 8 _ [(0, _), (1, _), (2, _), (3, _), (4, _), (5, _), (6, _), (7, _), (8, _)] dX8_daysOf_155 rfl rfl rfl (by decide) rfl ?_
      refine V_goto 158 104 dX8_daysOf_158 (by decide) ?_
      exact ih (h + 1) 1 _ (by omega) (by omega) (by rw [w_put_ne _ 88 (by decide)]; exact j1) (by rw [w_put_ne _ 93 (by decide)]; exact j2) (hI.yes ⟨c1, h1, by omega, c2⟩) (fun J' so' x a b => hkk J' so' x (fun i hi => by rw [a i hi, w_put_ne _ _ hi]) b)
    · refine V_goto 141 155 dX8_daysOf_141 (by decide) ?_
      refine V_inc 155 8 _ [(0, _), (1, _), (2, _), (3, _), (4, _), (5, _), (6, _), (7, _), (8, _)] dX8_daysOf_155 rfl rfl rfl (by decide) rfl ?_
      refine V_goto 158 104 dX8_daysOf_158 (by decide) ?_
      exact ih (h + 1) so J (by omega) (by omega) j1 j2 (hI.no (fun q => q.2.2.2 c2)) hkk
theorem do_out {K si mo dd : Nat} {I : w_I} (hP : s_POK P) (hv : ∀ k, k < 2 ^ P 0 0 → I 88 k = 1 → ∀ q, q < 64 → I 93 (64 * k + q) ≤ NVR) (h01 : ∀ k, k < 2 ^ P 0 0 → I 88 k = 0 ∨ I 88 k = 1) : ∀ (n k so : Nat) (J : w_I), k + n = 2 ^ P 0 0 → J 88 = I 88 → J 93 = I 93 → Ik I J (2 ^ P 0 0) k 1 so →
    (∀ J' so', (∀ i, i ≠ 89 → J' i = J i) → Ik I J' (2 ^ P 0 0) (2 ^ P 0 0) 1 so' → V mX8_daysOf E Ω 0 0 (SH u v) J' L 167 [(0, .ref (Ω.1 + 63)), (1, .int (nI K)), (2, .int (nI si)), (3, .int (nI mo)), (4, .int (nI (2 ^ P 0 0))), (5, .int (nI dd)), (6, .int (nI so')), (7, .int (nI (2 ^ P 0 0)))] []) →
    V mX8_daysOf E Ω 0 0 (SH u v) J L 94 [(0, .ref (Ω.1 + 63)), (1, .int (nI K)), (2, .int (nI si)), (3, .int (nI mo)), (4, .int (nI (2 ^ P 0 0))), (5, .int (nI dd)), (6, .int (nI so)), (7, .int (nI k))] [] := by
  have h6 := hP.1.2
  have h64 : 2 ^ P 0 0 ≤ 64 := Nat.pow_le_pow_right (n := 2) (j := 6) (by decide) h6
  have hpos : 1 ≤ 2 ^ P 0 0 := Nat.one_le_two_pow
  intro n
  induction n with
  | zero =>
    intro k so J hk j1 j2 hI hkk
    have e : k = 2 ^ P 0 0 := by omega
    subst e
    refine V_iload 94 7 dX8_daysOf_94 rfl ?_
    refine V_iload 96 4 dX8_daysOf_96 rfl ?_
    refine V_cN_ge 98 167 dX8_daysOf_98 (by decide) (by omega) (by omega) (fun c => ?_) (fun c => ?_)
    · exact hkk J so (fun _ _ => rfl) hI
    · omega
  | succ n ih =>
    intro k so J hk j1 j2 hI hkk
    refine V_iload 94 7 dX8_daysOf_94 rfl ?_
    refine V_iload 96 4 dX8_daysOf_96 rfl ?_
    refine V_cN_ge 98 167 dX8_daysOf_98 (by decide) (by omega) (by omega) (fun c => ?_) (fun c => ?_)
    · omega
    refine V_cst 101 1 dX8_daysOf_101 rfl ?_
    refine V_istore 102 [(0, _), (1, _), (2, _), (3, _), (4, _), (5, _), (6, _), (7, _), (8, _)] dX8_daysOf_102 (by decide) rfl ?_
    refine do_in hP (by omega) (hv k (by omega)) (h01 k (by omega)) (2 ^ P 0 0 - 1) 1 so J (by omega) (by omega) j1 j2 hI (fun J' so' x a b => ?_)
    refine V_inc 161 7 _ [(0, _), (1, _), (2, _), (3, _), (4, _), (5, _), (6, _), (7, _), (8, _)] dX8_daysOf_161 rfl rfl rfl (by decide) rfl ?_
    refine V_sub [(0, _), (1, _), (2, _), (3, _), (4, _), (5, _), (6, _), (7, _)] [0, 1, 2, 3, 4, 5, 6, 7] rfl ?_
    refine V_goto 164 94 dX8_daysOf_164 (by decide) ?_
    refine V_sub [(0, _), (1, _), (2, _), (3, _), (4, _), (5, _), (6, _), (7, _)] [0, 1, 2, 3, 4, 5, 6, 7] rfl ?_
    exact ih (k + 1) so' J' (by omega) (by rw [a 88 (by decide)]; exact j1) (by rw [a 93 (by decide)]; exact j2) b (fun J2 so2 a2 b2 => hkk J2 so2 (fun i hi => (a2 i hi).trans (a i hi)) b2)
end
