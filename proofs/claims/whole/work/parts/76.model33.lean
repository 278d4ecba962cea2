def r_c (h s a : Nat) : Nat := (h * 64 + s) * 2 + a
/-- what a meeting makes of a state -/
def r_n1 (P : w_R) (K si : Nat) (w : Nat → Nat) (i b h s a x c y : Nat) : Prop := r_ok P K si i b h s ∧ c = r_c (r_h P i b h) (r_s P (i + 1) (s ||| 2 ^ r_w P i b)) (r_a P i b h a) ∧ y = x + w (r_w P i b)
def r_new (P : w_R) (K si : Nat) (w : Nat → Nat) (i h s a x c y : Nat) : Prop := (c = r_c h (r_s P (i + 1) s) a ∧ y = x) ∨ ∃ b, (b = 1 ∨ b = 2) ∧ r_n1 P K si w i b h s a x c y
section
variable {Ω : w_O} {d u v : Nat} {L : w_L} {E : w_E} {P : w_R}
theorem FrO.kf {sd si ks : Nat} {I I' : w_I} (h : FrO sd I I') (hK : KF P si ks I) : KF P si ks I' := by
  obtain ⟨a, b, c, e⟩ := hK
  exact ⟨h.k.mp a, by rw [h.2.1 43 (by decide)]; exact b, by rw [h.2.1 44 (by decide)]; exact c, fun j hj => by rw [h.1 87 (by decide) (by decide) (by decide) (by decide)]; exact e j hj⟩
theorem sp_b {I : w_I} {K si ks i b h s a x cl : Nat} {Q : List Nat} {vl : Nat → Nat} (hE : w_fit (d + 1) E) (hP : s_POK P) (hK : KF P si ks I) (hks : ks = 0 ∨ ks = 1) (h42 : I 63 42 = K) (hK64 : K < 64) (hsi : si < 64) (hi : i < P 2 0) (hb : b = 1 ∨ b = 2) (hh : h < 64) (hs : s < 64) (ha : a < 2) (hx : x < 999900) (hS : I 63 52 < 2000000000) (hF : FQ ((i + 1) % 2) Q vl I)
    (hk : ∀ I' Q' vl', FrO ((i + 1) % 2) I I' → FQ ((i + 1) % 2) Q' vl' I' → Ext Q vl Q' vl' (r_n1 P K si (r_p P ks) i b h s a x) → V mX8_spread E Ω 0 0 (SH u v) I' L 74 [(0, .ref (Ω.1 + 63)), (1, .int (nI i)), (2, .int (nI cl)), (3, .int (nI x)), (4, .int (nI h)), (5, .int (nI s)), (6, .int (nI a)), (7, .int (nI (r_m P i))), (8, .int (nI ((i + 1) % 2))), (9, .int (nI (b + 1)))] []) :
    V mX8_spread E Ω 0 0 (SH u v) I L 74 [(0, .ref (Ω.1 + 63)), (1, .int (nI i)), (2, .int (nI cl)), (3, .int (nI x)), (4, .int (nI h)), (5, .int (nI s)), (6, .int (nI a)), (7, .int (nI (r_m P i))), (8, .int (nI ((i + 1) % 2))), (9, .int (nI b))] [] := by
  have h6 := hP.1.2
  have h12 := hP.2.2.1
  have g1 := r_m_lt hP hi
  obtain ⟨m3, m4, m5⟩ := hK.1.2.2.2.2.1 _ g1
  obtain ⟨q3, q4, -⟩ := hP.2.2.2.1 _ g1
  obtain ⟨w1, w2, w3⟩ := r_wo hP hi b
  have hsd : (i + 1) % 2 < 2 := Nat.mod_lt _ (by decide)
  have skip : ¬ r_ok P K si i b h s → ∀ y z, V mX8_spread E Ω 0 0 (SH u v) I L 241 [(0, .ref (Ω.1 + 63)), (1, .int (nI i)), (2, .int (nI cl)), (3, .int (nI x)), (4, .int (nI h)), (5, .int (nI s)), (6, .int (nI a)), (7, .int (nI (r_m P i))), (8, .int (nI ((i + 1) % 2))), (9, .int (nI b)), (10, .int (nI y)), (11, .int (nI z))] [] := by
    intro hno y z
    refine V_inc 241 9 _ [(0, _), (1, _), (2, _), (3, _), (4, _), (5, _), (6, _), (7, _), (8, _), (9, _), (10, _), (11, _)] dX8_spread_241 rfl rfl rfl (by decide) rfl ?_
    refine V_sub [(0, _), (1, _), (2, _), (3, _), (4, _), (5, _), (6, _), (7, _), (8, _), (9, _)] [0, 1, 2, 3, 4, 5, 6, 7, 8, 9] rfl ?_
    refine V_goto 244 74 dX8_spread_244 (by decide) ?_
    refine V_sub [(0, _), (1, _), (2, _), (3, _), (4, _), (5, _), (6, _), (7, _), (8, _), (9, _)] [0, 1, 2, 3, 4, 5, 6, 7, 8, 9] rfl ?_
    exact hk I Q vl FrO.rf hF (Ext.rf.of (fun c y => ⟨fun q => absurd q id, fun q => hno q.1⟩))
  have k130 : V mX8_spread E Ω 0 0 (SH u v) I L 130 [(0, .ref (Ω.1 + 63)), (1, .int (nI i)), (2, .int (nI cl)), (3, .int (nI x)), (4, .int (nI h)), (5, .int (nI s)), (6, .int (nI a)), (7, .int (nI (r_m P i))), (8, .int (nI ((i + 1) % 2))), (9, .int (nI b)), (10, .int (nI (r_w P i b))), (11, .int (nI (r_o P i b)))] [] := by
    have hs2 : s ||| si < 64 := or6 hs hsi
    have hk2 : K ||| h < 64 := or6 hK64 hh
    refine V_iload 130 5 dX8_spread_130 rfl ?_
    refine V_aload_n 132 0 dX8_spread_132 rfl ?_
    refine V_getI 133 flX8_295 dX8_spread_133 rfl ?_
    rw [hK.2.1]
    refine V_or 136 dX8_spread_136 ?_
    refine V_iload 137 10 dX8_spread_137 rfl ?_
    refine V_shr 139 dX8_spread_139 (by omega) (by omega) ?_
    refine V_cst 140 1 dX8_spread_140 rfl ?_
    refine V_and 141 dX8_spread_141 ?_
    refine V_cst 142 1 dX8_spread_142 rfl ?_
    rw [bit01]
    cases c1 : (s ||| si).testBit (r_w P i b)
    rotate_left
    · rw [if_pos rfl]
      refine V_cN_eq 143 241 dX8_spread_143 (by decide) (by omega) (by omega) (fun c => ?_) (fun c => ?_)
      rotate_left
      · exact absurd rfl c
      exact skip (fun q => by rw [q.1] at c1; exact absurd c1 (by decide)) _ _
    rw [if_neg (by decide)]
    refine V_cN_eq 143 241 dX8_spread_143 (by decide) (by omega) (by omega) (fun c => ?_) (fun c => ?_)
    · exact absurd c (by decide)
    refine V_aload_n 146 0 dX8_spread_146 rfl ?_
    refine V_getI 147 flX8_298 dX8_spread_147 rfl ?_
    rw [h42]
    refine V_iload 150 4 dX8_spread_150 rfl ?_
    refine V_or 152 dX8_spread_152 ?_
    refine V_iload 153 10 dX8_spread_153 rfl ?_
    refine V_shr 155 dX8_spread_155 (by omega) (by omega) ?_
    refine V_cst 156 1 dX8_spread_156 rfl ?_
    refine V_and 157 dX8_spread_157 ?_
    rw [bit01]
    cases c2 : (K ||| h).testBit (r_w P i b)
    · rw [if_neg (by decide)]
      refine V_zN_ne 158 164 dX8_spread_158 (by decide) (by omega) (fun c => ?_) (fun c => ?_)
      · exact absurd rfl c
      refine V_goto 161 241 dX8_spread_161 (by decide) ?_
      exact skip (fun q => by rw [q.2] at c2; exact absurd c2 (by decide)) _ _
    rw [if_pos rfl]
    refine V_zN_ne 158 164 dX8_spread_158 (by decide) (by omega) (fun c => ?_) (fun c => ?_)
    rotate_left
    · exact absurd c (by decide)
    have hra : r_a P i b h a < 2 := by unfold r_a; split <;> decide
    have hrh : r_h P i b h < 64 := or6 (or6 hh (p6 (by omega))) (p6 (by omega))
    have hss : s ||| 2 ^ r_w P i b < 64 := or6 hs (p6 (by omega))
    have k187 : V mX8_spread E Ω 0 0 (SH u v) I L 187 [(0, .ref (Ω.1 + 63)), (1, .int (nI i)), (2, .int (nI cl)), (3, .int (nI x)), (4, .int (nI h)), (5, .int (nI s)), (6, .int (nI a)), (7, .int (nI (r_m P i))), (8, .int (nI ((i + 1) % 2))), (9, .int (nI b)), (10, .int (nI (r_w P i b))), (11, .int (nI (r_o P i b))), (12, .int (nI (r_a P i b h a)))] [] := by
      have hp : r_p P ks (r_w P i b) ≤ 99 := r_p_le hP _ w1
      have k237 : V mX8_spread E Ω 0 0 (SH u v) I L 237 [(0, .ref (Ω.1 + 63)), (1, .int (nI i)), (2, .int (nI cl)), (3, .int (nI x)), (4, .int (nI h)), (5, .int (nI s)), (6, .int (nI a)), (7, .int (nI (r_m P i))), (8, .int (nI ((i + 1) % 2))), (9, .int (nI b)), (10, .int (nI (r_w P i b))), (11, .int (nI (r_o P i b))), (12, .int (nI (r_a P i b h a)))] [.int (nI (r_p P ks (r_w P i b))), .int (nI x), .int (nI (r_a P i b h a)), .int (nI (r_s P (i + 1) (s ||| 2 ^ r_w P i b))), .int (nI (r_h P i b h)), .int (nI ((i + 1) % 2)), .ref (Ω.1 + 63)] := by
        refine V_add 237 dX8_spread_237 ?_
        refine V_vv 238 mvX8_315 dX8_spread_238 ⟨_, _, _, rfl, rfl, rfl⟩ (w_fit.mono (by omega) hE) (m_offer (d := d) (x := x + r_p P ks (r_w P i b)) hsd hrh (r_s_le hss) hra (by omega) hS hF) rfl (Nat.le_of_ble_eq_true rfl) ?_
        rintro _ I' _ ⟨rfl, rfl, f1, Q', vl', f2, f3⟩
        refine V_sub [(0, _), (1, _), (2, _), (3, _), (4, _), (5, _), (6, _), (7, _), (8, _), (9, _), (10, _), (11, _)] [0, 1, 2, 3, 4, 5, 6, 7, 8, 9, 10, 11] rfl ?_
        refine V_inc 241 9 _ [(0, _), (1, _), (2, _), (3, _), (4, _), (5, _), (6, _), (7, _), (8, _), (9, _), (10, _), (11, _)] dX8_spread_241 rfl rfl rfl (by decide) rfl ?_
        refine V_sub [(0, _), (1, _), (2, _), (3, _), (4, _), (5, _), (6, _), (7, _), (8, _), (9, _)] [0, 1, 2, 3, 4, 5, 6, 7, 8, 9] rfl ?_
        refine V_goto 244 74 dX8_spread_244 (by decide) ?_
        refine V_sub [(0, _), (1, _), (2, _), (3, _), (4, _), (5, _), (6, _), (7, _), (8, _), (9, _)] [0, 1, 2, 3, 4, 5, 6, 7, 8, 9] rfl ?_
        exact hk I' Q' vl' f1 f2 (f3.of (fun c y => ⟨fun q => ⟨⟨c1, c2⟩, q.1, q.2⟩, fun q => ⟨q.2.1, q.2.2⟩⟩))
      refine V_aload_n 187 0 dX8_spread_187 rfl ?_
      refine V_iload 188 8 dX8_spread_188 rfl ?_
      refine V_iload 190 4 dX8_spread_190 rfl ?_
      refine V_cst 192 1 dX8_spread_192 rfl ?_
      refine V_iload 193 10 dX8_spread_193 rfl ?_
      refine V_shl 195 dX8_spread_195 (by omega) ?_
      refine V_or 196 dX8_spread_196 ?_
      refine V_cst 197 1 dX8_spread_197 rfl ?_
      refine V_iload 198 11 dX8_spread_198 rfl ?_
      refine V_shl 200 dX8_spread_200 (by omega) ?_
      refine V_or 201 dX8_spread_201 ?_
      refine V_aload_n 202 0 dX8_spread_202 rfl ?_
      refine V_iload_n 203 1 dX8_spread_203 rfl ?_
      refine V_cst 204 1 dX8_spread_204 rfl ?_
      refine V_add 205 dX8_spread_205 ?_
      refine V_iload 206 5 dX8_spread_206 rfl ?_
      refine V_cst 208 1 dX8_spread_208 rfl ?_
      refine V_iload 209 10 dX8_spread_209 rfl ?_
      refine V_shl 211 dX8_spread_211 (by omega) ?_
      refine V_or 212 dX8_spread_212 ?_
      rw [Nat.one_mul, Nat.one_mul]
      refine V_vi 213 mvX8_288 dX8_spread_213 ⟨_, _, _, rfl, rfl, rfl⟩ (w_fit.mono (by omega) hE) (m_spokeAt (d := d) (s := s ||| 2 ^ r_w P i b) hP hK.1 hK.2.2.2 (by omega)) rfl (Nat.le_of_ble_eq_true rfl) ?_
      rintro _ _ _ _ ⟨rfl, rfl, rfl, rfl⟩
      refine V_iload 216 12 dX8_spread_216 rfl ?_
      refine V_iload_n 218 3 dX8_spread_218 rfl ?_
      refine V_aload_n 219 0 dX8_spread_219 rfl ?_
      refine V_getI 220 flX8_302 dX8_spread_220 rfl ?_
      rw [hK.2.2.1]
      rcases hks with rfl | rfl
      · refine V_zN_eq 223 230 dX8_spread_223 (by decide) (by omega) (fun c3 => ?_) (fun c3 => ?_)
        rotate_left
        · exact absurd rfl c3
        refine V_aload_n 230 0 dX8_spread_230 rfl ?_
        refine V_getR 231 flX8_13 dX8_spread_231 rfl ?_
        refine V_iload 234 10 dX8_spread_234 rfl ?_
        refine V_iald 236 dX8_spread_236 rfl (by omega) (by omega) ?_
        rw [hK.1.2.2.2.1 _ (by omega)]
        exact k237
      · refine V_zN_eq 223 230 dX8_spread_223 (by decide) (by omega) (fun c3 => ?_) (fun c3 => ?_)
        · exact absurd c3 (by decide)
        refine V_cst 226 1 dX8_spread_226 rfl ?_
        refine V_goto 227 237 dX8_spread_227 (by decide) ?_
        exact k237
    refine V_iload 164 6 dX8_spread_164 rfl ?_
    refine V_cst 166 1 dX8_spread_166 rfl ?_
    refine V_cN_eq 167 180 dX8_spread_167 (by decide) (by omega) (by omega) (fun c3 => ?_) (fun c3 => ?_)
    · refine V_cst 180 1 dX8_spread_180 rfl ?_
      refine V_goto 181 185 dX8_spread_181 (by decide) ?_
      refine V_istore 185 [(0, _), (1, _), (2, _), (3, _), (4, _), (5, _), (6, _), (7, _), (8, _), (9, _), (10, _), (11, _), (12, _)] dX8_spread_185 (by decide) rfl ?_
      have e : r_a P i b h a = 1 := by unfold r_a; rw [if_pos (Or.inl c3)]
      rw [e] at k187
      exact k187
    refine V_iload 170 4 dX8_spread_170 rfl ?_
    refine V_iload 172 11 dX8_spread_172 rfl ?_
    refine V_shr 174 dX8_spread_174 (by omega) (by omega) ?_
    refine V_cst 175 1 dX8_spread_175 rfl ?_
    refine V_and 176 dX8_spread_176 ?_
    rw [bit01]
    cases c4 : h.testBit (r_o P i b)
    · rw [if_neg (by decide)]
      refine V_zN_ne 177 184 dX8_spread_177 (by decide) (by omega) (fun c5 => ?_) (fun c5 => ?_)
      · exact absurd rfl c5
      refine V_cst 180 1 dX8_spread_180 rfl ?_
      refine V_goto 181 185 dX8_spread_181 (by decide) ?_
      refine V_istore 185 [(0, _), (1, _), (2, _), (3, _), (4, _), (5, _), (6, _), (7, _), (8, _), (9, _), (10, _), (11, _), (12, _)] dX8_spread_185 (by decide) rfl ?_
      have e : r_a P i b h a = 1 := by unfold r_a; rw [if_pos (Or.inr c4)]
      rw [e] at k187
      exact k187
    · rw [if_pos rfl]
      refine V_zN_ne 177 184 dX8_spread_177 (by decide) (by omega) (fun c5 => ?_) (fun c5 => ?_)
      rotate_left
      · exact absurd c5 (by decide)
      refine V_cst 184 0 dX8_spread_184 rfl ?_
      refine V_istore 185 [(0, _), (1, _), (2, _), (3, _), (4, _), (5, _), (6, _), (7, _), (8, _), (9, _), (10, _), (11, _), (12, _)] dX8_spread_185 (by decide) rfl ?_
      have e : r_a P i b h a = 0 := by unfold r_a; rw [if_neg (fun q => by rcases q with q | q; exact c3 q; rw [c4] at q; exact absurd q (by decide))]
      rw [e] at k187
      exact k187
  refine V_iload 74 9 dX8_spread_74 rfl ?_
  refine V_cst 76 3 dX8_spread_76 rfl ?_
  refine V_cN_ge 77 247 dX8_spread_77 (by decide) (by omega) (by omega) (fun c => ?_) (fun c => ?_)
  · omega
  refine V_iload 80 9 dX8_spread_80 rfl ?_
  refine V_cst 82 1 dX8_spread_82 rfl ?_
  rcases hb with rfl | rfl
  · have e1 : r_w P i 1 = P 3 (r_m P i) := rfl
    have e2 : r_o P i 1 = P 4 (r_m P i) := rfl
    rw [e1, e2] at k130
    refine V_cN_ne 83 96 dX8_spread_83 (by decide) (by omega) (by omega) (fun c1 => ?_) (fun c1 => ?_)
    · exact absurd rfl c1
    refine V_aload_n 86 0 dX8_spread_86 rfl ?_
    refine V_getR 87 flX8_16 dX8_spread_87 rfl ?_
    refine V_iload 90 7 dX8_spread_90 rfl ?_
    refine V_iald 92 dX8_spread_92 rfl (by omega) (by omega) ?_
    rw [m3]
    refine V_goto 93 103 dX8_spread_93 (by decide) ?_
    refine V_istore 103 [(0, _), (1, _), (2, _), (3, _), (4, _), (5, _), (6, _), (7, _), (8, _), (9, _), (10, _)] dX8_spread_103 (by decide) rfl ?_
    refine V_iload 105 9 dX8_spread_105 rfl ?_
    refine V_cst 107 1 dX8_spread_107 rfl ?_
    refine V_cN_ne 108 121 dX8_spread_108 (by decide) (by omega) (by omega) (fun c2 => ?_) (fun c2 => ?_)
    · exact absurd rfl c2
    refine V_aload_n 111 0 dX8_spread_111 rfl ?_
    refine V_getR 112 flX8_19 dX8_spread_112 rfl ?_
    refine V_iload 115 7 dX8_spread_115 rfl ?_
    refine V_iald 117 dX8_spread_117 rfl (by omega) (by omega) ?_
    rw [m4]
    refine V_goto 118 128 dX8_spread_118 (by decide) ?_
    refine V_istore 128 [(0, _), (1, _), (2, _), (3, _), (4, _), (5, _), (6, _), (7, _), (8, _), (9, _), (10, _), (11, _)] dX8_spread_128 (by decide) rfl ?_
    exact k130
  · have e1 : r_w P i 2 = P 4 (r_m P i) := rfl
    have e2 : r_o P i 2 = P 3 (r_m P i) := rfl
    rw [e1, e2] at k130
    refine V_cN_ne 83 96 dX8_spread_83 (by decide) (by omega) (by omega) (fun c1 => ?_) (fun c1 => ?_)
    rotate_left
    · exact absurd c1 (by decide)
    refine V_aload_n 96 0 dX8_spread_96 rfl ?_
    refine V_getR 97 flX8_19 dX8_spread_97 rfl ?_
    refine V_iload 100 7 dX8_spread_100 rfl ?_
    refine V_iald 102 dX8_spread_102 rfl (by omega) (by omega) ?_
    rw [m4]
    refine V_istore 103 [(0, _), (1, _), (2, _), (3, _), (4, _), (5, _), (6, _), (7, _), (8, _), (9, _), (10, _)] dX8_spread_103 (by decide) rfl ?_
    refine V_iload 105 9 dX8_spread_105 rfl ?_
    refine V_cst 107 1 dX8_spread_107 rfl ?_
    refine V_cN_ne 108 121 dX8_spread_108 (by decide) (by omega) (by omega) (fun c2 => ?_) (fun c2 => ?_)
    rotate_left
    · exact absurd c2 (by decide)
    refine V_aload_n 121 0 dX8_spread_121 rfl ?_
    refine V_getR 122 flX8_16 dX8_spread_122 rfl ?_
    refine V_iload 125 7 dX8_spread_125 rfl ?_
    refine V_iald 127 dX8_spread_127 rfl (by omega) (by omega) ?_
    rw [m3]
    refine V_istore 128 [(0, _), (1, _), (2, _), (3, _), (4, _), (5, _), (6, _), (7, _), (8, _), (9, _), (10, _), (11, _)] dX8_spread_128 (by decide) rfl ?_
    exact k130
theorem m_spread {I : w_I} {K si ks i h s a x : Nat} {Q : List Nat} {vl : Nat → Nat} (hP : s_POK P) (hK : KF P si ks I) (hks : ks = 0 ∨ ks = 1) (h42 : I 63 42 = K) (hK64 : K < 64) (hsi : si < 64) (hi : i < P 2 0) (hh : h < 64) (hs : s < 64) (ha : a < 2) (hx : x < 999900) (hv : I 96 (8192 * (i % 2) + r_c h s a) = x) (hS : I 63 52 < 2000000000) (hF : FQ ((i + 1) % 2) Q vl I) : FnV Ω (d + 2) mX8_spread [.ref (Ω.1 + 63), .int (nI i), .int (nI (r_c h s a))] (SH u v) I L (fun S' I' L' => S' = SH u v ∧ L = L' ∧ FrO ((i + 1) % 2) I I' ∧ ∃ Q' vl', FQ ((i + 1) % 2) Q' vl' I' ∧ Ext Q vl Q' vl' (r_new P K si (r_p P ks) i h s a x)) := by
  have h12 := hP.2.2.1
  have hi2 : i % 2 < 2 := Nat.mod_lt _ (by decide)
  have hsd : (i + 1) % 2 < 2 := Nat.mod_lt _ (by decide)
  have hc8 : r_c h s a < 8192 := by unfold r_c; omega
  have d1 : r_c h s a / 2 / 64 = h := by unfold r_c; omega
  have d2 : r_c h s a / 2 % 64 = s := by unfold r_c; omega
  have d3 : r_c h s a % 2 = a := by unfold r_c; omega
  refine FnR_of1 okX8_spread (Nat.le_of_ble_eq_true rfl) fun l z hE => ?_
  show V _ _ _ _ _ _ _ _ 0 [(0, _), (1, _), (2, _)] []
  refine V_aload_n 0 0 dX8_spread_0 rfl ?_
  refine V_getR 1 flX8_112 dX8_spread_1 rfl ?_
  refine V_sip 4 8192 dX8_spread_4 rfl ?_
  refine V_iload_n 7 1 dX8_spread_7 rfl ?_
  refine V_cst 8 2 dX8_spread_8 rfl ?_
  refine V_rem 9 dX8_spread_9 (by omega) (by omega) (by omega) ?_
  refine V_mul 10 dX8_spread_10 ?_
  refine V_iload_n 11 2 dX8_spread_11 rfl ?_
  refine V_add 12 dX8_spread_12 ?_
  refine V_iald 13 dX8_spread_13 rfl (by omega) (by omega) ?_
  rw [hv]
  refine V_istore_n 14 [(0, _), (1, _), (2, _), (3, _)] dX8_spread_14 (by decide) rfl ?_
  refine V_iload_n 15 2 dX8_spread_15 rfl ?_
  refine V_cst 16 2 dX8_spread_16 rfl ?_
  refine V_div 17 dX8_spread_17 (by omega) (by omega) (by omega) ?_
  refine V_bip 18 64 dX8_spread_18 rfl ?_
  refine V_div 20 dX8_spread_20 (by omega) (by omega) (by omega) ?_
  refine V_istore 21 [(0, _), (1, _), (2, _), (3, _), (4, _)] dX8_spread_21 (by decide) rfl ?_
  refine V_iload_n 23 2 dX8_spread_23 rfl ?_
  refine V_cst 24 2 dX8_spread_24 rfl ?_
  refine V_div 25 dX8_spread_25 (by omega) (by omega) (by omega) ?_
  refine V_bip 26 64 dX8_spread_26 rfl ?_
  refine V_rem 28 dX8_spread_28 (by omega) (by omega) (by omega) ?_
  refine V_istore 29 [(0, _), (1, _), (2, _), (3, _), (4, _), (5, _)] dX8_spread_29 (by decide) rfl ?_
  refine V_iload_n 31 2 dX8_spread_31 rfl ?_
  refine V_cst 32 2 dX8_spread_32 rfl ?_
  refine V_rem 33 dX8_spread_33 (by omega) (by omega) (by omega) ?_
  refine V_istore 34 [(0, _), (1, _), (2, _), (3, _), (4, _), (5, _), (6, _)] dX8_spread_34 (by decide) rfl ?_
  refine V_aload_n 36 0 dX8_spread_36 rfl ?_
  refine V_getR 37 flX8_84 dX8_spread_37 rfl ?_
  refine V_iload_n 40 1 dX8_spread_40 rfl ?_
  refine V_iald 41 dX8_spread_41 rfl (by omega) (by omega) ?_
  rw [d1, d2, d3, hK.2.2.2 i hi]
  refine V_istore 42 [(0, _), (1, _), (2, _), (3, _), (4, _), (5, _), (6, _), (7, _)] dX8_spread_42 (by decide) rfl ?_
  refine V_iload_n 44 1 dX8_spread_44 rfl ?_
  refine V_cst 45 1 dX8_spread_45 rfl ?_
  refine V_add 46 dX8_spread_46 ?_
  refine V_cst 47 2 dX8_spread_47 rfl ?_
  refine V_rem 48 dX8_spread_48 (by omega) (by omega) (by omega) ?_
  refine V_istore 49 [(0, _), (1, _), (2, _), (3, _), (4, _), (5, _), (6, _), (7, _), (8, _)] dX8_spread_49 (by decide) rfl ?_
  refine V_aload_n 51 0 dX8_spread_51 rfl ?_
  refine V_iload 52 8 dX8_spread_52 rfl ?_
  refine V_iload 54 4 dX8_spread_54 rfl ?_
  refine V_aload_n 56 0 dX8_spread_56 rfl ?_
  refine V_iload_n 57 1 dX8_spread_57 rfl ?_
  refine V_cst 58 1 dX8_spread_58 rfl ?_
  refine V_add 59 dX8_spread_59 ?_
  refine V_iload 60 5 dX8_spread_60 rfl ?_
  refine V_vi 62 mvX8_288 dX8_spread_62 ⟨_, _, _, rfl, rfl, rfl⟩ (w_fit.mono (by omega) hE) (m_spokeAt (d := d) (s := s) hP hK.1 hK.2.2.2 (by omega)) rfl (Nat.le_of_ble_eq_true rfl) ?_
  rintro _ _ _ _ ⟨rfl, rfl, rfl, rfl⟩
  refine V_iload 65 6 dX8_spread_65 rfl ?_
  refine V_iload_n 67 3 dX8_spread_67 rfl ?_
  refine V_vv 68 mvX8_315 dX8_spread_68 ⟨_, _, _, rfl, rfl, rfl⟩ (w_fit.mono (by omega) hE) (m_offer (d := d) (x := x) hsd hh (r_s_le hs) ha (by omega) hS hF) rfl (Nat.le_of_ble_eq_true rfl) ?_
  rintro _ I1 _ ⟨rfl, rfl, f1, Q1, vl1, g1, e1⟩
  refine V_cst 71 1 dX8_spread_71 rfl ?_
  refine V_istore 72 [(0, _), (1, _), (2, _), (3, _), (4, _), (5, _), (6, _), (7, _), (8, _), (9, _)] dX8_spread_72 (by decide) rfl ?_
  refine sp_b (d := d) (K := K) (si := si) (ks := ks) (b := 1) hE hP (f1.kf hK) hks (by rw [f1.2.1 42 (by decide)]; exact h42) hK64 hsi hi (Or.inl rfl) hh hs ha hx (by rw [f1.2.1 52 (by decide)]; exact hS) g1 (fun I2 Q2 vl2 f2 g2 e2 => ?_)
  have f12 := f1.trans f2
  refine sp_b (d := d) (K := K) (si := si) (ks := ks) (b := 2) hE hP (f12.kf hK) hks (by rw [f12.2.1 42 (by decide)]; exact h42) hK64 hsi hi (Or.inr rfl) hh hs ha hx (by rw [f12.2.1 52 (by decide)]; exact hS) g2 (fun I3 Q3 vl3 f3 g3 e3 => ?_)
  refine V_iload 74 9 dX8_spread_74 rfl ?_
  refine V_cst 76 3 dX8_spread_76 rfl ?_
  refine V_cN_ge 77 247 dX8_spread_77 (by decide) (by omega) (by omega) (fun c => ?_) (fun c => ?_)
  rotate_left
  · omega
  refine V_ret 247 dX8_spread_247 rfl ⟨rfl, rfl, f12.trans f3, Q3, vl3, g3, ((e1.comp e2).comp e3).of (fun c y => ?_)⟩
  unfold r_new
  constructor
  · rintro ((q | q) | q)
    · exact Or.inl q
    · exact Or.inr ⟨1, Or.inl rfl, q⟩
    · exact Or.inr ⟨2, Or.inr rfl, q⟩
  · rintro (q | ⟨b, rfl | rfl, q⟩)
    · exact Or.inl (Or.inl q)
    · exact Or.inl (Or.inr q)
    · exact Or.inr q
end
