theorem FrD.p84 {t x : Nat} {I I' : w_I} (h : FrD t I I') : FrD t I (w_put I' 81 t x) := by
  refine ⟨fun i hi => (w_put_ne I' i (by omega)).trans (h.1 i hi), fun q hq => ?_, fun q hq => ?_⟩
  · rw [w_put_ne I' 80 (by decide), w_put_other I' (Or.inr hq)]; exact h.2.1 q hq
  · rw [w_put_ne I' 82 (by decide), w_put_ne I' 83 (by decide), w_put_ne I' 84 (by decide), w_put_ne I' 85 (by decide)]; exact h.2.2 q hq
theorem FrD.p89 {t j x : Nat} {I I' : w_I} (h : FrD t I I') : FrD t I (w_put I' 86 j x) := by
  refine ⟨fun i hi => (w_put_ne I' i (by omega)).trans (h.1 i hi), fun q hq => ?_, fun q hq => ?_⟩
  · rw [w_put_ne I' 80 (by decide), w_put_ne I' 81 (by decide)]; exact h.2.1 q hq
  · rw [w_put_ne I' 82 (by decide), w_put_ne I' 83 (by decide), w_put_ne I' 84 (by decide), w_put_ne I' 85 (by decide)]; exact h.2.2 q hq
theorem FrD.my {t : Nat} {I I' : w_I} {Y : w_R} (h : FrD t I I') (hM : MY Y I) : MY Y I' := hM.of (by rw [h.1 63 (by decide)]) (fun i _ _ => h.1 i (by omega))
section
variable {Ω : w_O} {d u v : Nat} {L : w_L} {E : w_E} {P Y : w_R} {t : Nat}
theorem sp_l {D : Nat → Prop} {m sp : Nat} (ht : t < 3) (hP : s_POK P) (hY : s_YOK P Y) (hm : m < P 2 0) : ∀ (n j : Nat) (C : w_R) (I : w_I), j + n = Y 0 0 → HI P D C → COK C → MP P I → MY Y I → MD t P C I →
    (∀ I' C' x, C' = ((List.range' j n).filter (fun s => Y 2 s == m)).foldl (s_say P Y) C → MD t P C' I' → FrD t I I' → V mX8_speak E Ω 0 0 (SH u v) I' L 257 [(0, .ref (Ω.1 + 63)), (1, .int (nI t)), (2, .int (nI m)), (3, .int (nI sp)), (4, .int (nI (C' 6 0))), (5, .int (nI x))] []) →
    V mX8_speak E Ω 0 0 (SH u v) I L 6 [(0, .ref (Ω.1 + 63)), (1, .int (nI t)), (2, .int (nI m)), (3, .int (nI sp)), (4, .int (nI (C 6 0))), (5, .int (nI j))] [] := by
  have h12 := hP.2.2.2.2.1
  have hm12 := hP.2.2.1
  have h6 := hP.1.2
  have h60 := hY.1
  have hmI : mI = 4294967295 := rfl
  intro n
  induction n with
  | zero =>
    intro j C I hj hH hC hMP hMY hM hk
    refine V_iload 6 5 dX8_speak_6 rfl ?_
    refine V_aload_n 8 0 dX8_speak_8 rfl ?_
    refine V_getI 9 flX8_242 dX8_speak_9 rfl ?_
    rw [hMY.1]
    refine V_cN_ge 12 257 dX8_speak_12 (by decide) (by omega) (by omega) (fun c => ?_) (fun c => ?_)
    · exact hk I C _ rfl hM FrD.rf
    · omega
  | succ n ih =>
    intro j C I hj hH hC hMP hMY hM hk
    obtain ⟨y1, y2, y3, y4⟩ := hY.2 j (by omega)
    obtain ⟨v1, v2, v3, v4⟩ := hMY.2 j (by omega)
    have hM0 := hM
    obtain ⟨m0, m1, m2⟩ := hM
    obtain ⟨a1, a2, a3, a4, a5⟩ := m2 (Y 4 j) y4
    have hday := hC.1
    have no : (Y 2 j = m → s_say P Y C j = C) → V mX8_speak E Ω 0 0 (SH u v) I L 251 [(0, .ref (Ω.1 + 63)), (1, .int (nI t)), (2, .int (nI m)), (3, .int (nI sp)), (4, .int (nI (C 6 0))), (5, .int (nI j))] [] := by
      intro h
      refine V_inc 251 5 _ [(0, _), (1, _), (2, _), (3, _), (4, _), (5, _)] dX8_speak_251 rfl rfl rfl (by decide) rfl ?_
      refine V_goto 254 6 dX8_speak_254 (by decide) ?_
      refine ih (j + 1) C I (by omega) hH hC hMP hMY hM0 (fun I' C' x h1 h2 h3 => hk I' C' x ?_ h2 h3)
      rw [h1, List.range'_succ, List.filter_cons]
      by_cases e : Y 2 j = m
      · rw [if_pos (by simpa using e), List.foldl_cons, h e]
      · rw [if_neg (by simpa using e)]
    refine V_iload 6 5 dX8_speak_6 rfl ?_
    refine V_aload_n 8 0 dX8_speak_8 rfl ?_
    refine V_getI 9 flX8_242 dX8_speak_9 rfl ?_
    rw [hMY.1]
    refine V_cN_ge 12 257 dX8_speak_12 (by decide) (by omega) (by omega) (fun c => ?_) (fun c => ?_)
    · omega
    refine V_aload_n 15 0 dX8_speak_15 rfl ?_
    refine V_getR 16 flX8_43 dX8_speak_16 rfl ?_
    refine V_iload 19 5 dX8_speak_19 rfl ?_
    refine V_iald 21 dX8_speak_21 rfl (by omega) (by omega) ?_
    refine V_iload_n 22 2 dX8_speak_22 rfl ?_
    rw [v2]
    refine V_cN_ne 23 251 dX8_speak_23 (by decide) (by omega) (by omega) (fun c0 => ?_) (fun c0 => ?_)
    · exact no (fun h => absurd h c0)
    obtain ⟨w1, w2, w3⟩ := wo_ne (Y := Y) (s := j) hP y2
    obtain ⟨z1, z2, z3⟩ := hMP.2.2.2.2.1 m hm
    have hcan := can_iff (Y := Y) (s := j) hH w2
    have hno : ¬ ((Y 1 j = mI ∨ Y 1 j = C 0 0) ∧ (C 6 0).testBit (s_who P Y j) = false ∧ q_st C (Y 4 j) = 1 ∧ (C 8 (Y 4 j) ||| C 9 (Y 4 j)).testBit (s_who P Y j) = true) → s_say P Y C j = C := by
      intro h
      unfold s_say
      rw [if_neg (fun q => h (hcan.mp q))]
    have hC8 := hC.2.2.2.2.2.1 (Y 4 j)
    have hC9 := hC.2.2.2.2.2.2 (Y 4 j)
    have hC6 := hC.2.2.2.2.1
    have hor : C 8 (Y 4 j) ||| C 9 (Y 4 j) < 64 := or6 hC8 hC9
    have hs3 := q_st_lt C (Y 4 j)
    -- from the day on
    have k56 : (Y 1 j = mI ∨ Y 1 j = C 0 0) → V mX8_speak E Ω 0 0 (SH u v) I L 56 [(0, .ref (Ω.1 + 63)), (1, .int (nI t)), (2, .int (nI m)), (3, .int (nI sp)), (4, .int (nI (C 6 0))), (5, .int (nI j))] [] := by
      intro hd
      have k110 : V mX8_speak E Ω 0 0 (SH u v) I L 110 [(0, .ref (Ω.1 + 63)), (1, .int (nI t)), (2, .int (nI m)), (3, .int (nI sp)), (4, .int (nI (C 6 0))), (5, .int (nI j)), (6, .int (nI (s_who P Y j))), (7, .int (nI (s_oth P Y j)))] [] := by
        refine V_bip 110 12 dX8_speak_110 rfl ?_
        refine V_iload_n 112 1 dX8_speak_112 rfl ?_
        refine V_mul 113 dX8_speak_113 ?_
        refine V_aload_n 114 0 dX8_speak_114 rfl ?_
        refine V_getR 115 flX8_49 dX8_speak_115 rfl ?_
        refine V_iload 118 5 dX8_speak_118 rfl ?_
        refine V_iald 120 dX8_speak_120 rfl (by omega) (by omega) ?_
        rw [v4]
        refine V_add 121 dX8_speak_121 ?_
        refine V_istore 122 [(0, _), (1, _), (2, _), (3, _), (4, _), (5, _), (6, _), (7, _), (8, _)] dX8_speak_122 (by decide) rfl ?_
        refine V_iload 124 4 dX8_speak_124 rfl ?_
        refine V_iload 126 6 dX8_speak_126 rfl ?_
        refine V_shr 128 dX8_speak_128 (by omega) (by omega) ?_
        refine V_cst 129 1 dX8_speak_129 rfl ?_
        refine V_and 130 dX8_speak_130 ?_
        refine V_cst 131 1 dX8_speak_131 rfl ?_
        have hb1 : (C 6 0 / 2 ^ s_who P Y j) &&& 1 < 2 := and_lt2 (by decide)
        refine V_cN_eq 132 251 dX8_speak_132 (by decide) (by omega) (by omega) (fun c1 => ?_) (fun c1 => ?_)
        · refine V_sub [(0, _), (1, _), (2, _), (3, _), (4, _), (5, _)] [0, 1, 2, 3, 4, 5] rfl ?_
          refine no (fun _ => hno (fun q => ?_))
          have : (C 6 0).testBit (s_who P Y j) = true := (bitN_iff _ _).mp (by unfold bitN; omega)
          rw [q.2.1] at this
          exact absurd this (by decide)
        have b1 : (C 6 0).testBit (s_who P Y j) = false := by
          cases h : (C 6 0).testBit (s_who P Y j)
          · rfl
          · have := (bitN_iff _ _).mpr h
            unfold bitN at this
            omega
        refine V_aload_n 135 0 dX8_speak_135 rfl ?_
        refine V_getR 136 flX8_68 dX8_speak_136 rfl ?_
        refine V_iload 139 8 dX8_speak_139 rfl ?_
        refine V_iald 141 dX8_speak_141 rfl (by omega) (by omega) ?_
        refine V_cst 142 1 dX8_speak_142 rfl ?_
        rw [a1]
        refine V_cN_ne 143 251 dX8_speak_143 (by decide) (by omega) (by omega) (fun c2 => ?_) (fun c2 => ?_)
        · refine V_sub [(0, _), (1, _), (2, _), (3, _), (4, _), (5, _)] [0, 1, 2, 3, 4, 5] rfl ?_
          exact no (fun _ => hno (fun q => c2 q.2.2.1))
        refine V_aload_n 146 0 dX8_speak_146 rfl ?_
        refine V_getR 147 flX8_74 dX8_speak_147 rfl ?_
        refine V_iload 150 8 dX8_speak_150 rfl ?_
        refine V_iald 152 dX8_speak_152 rfl (by omega) (by omega) ?_
        rw [a3]
        refine V_aload_n 153 0 dX8_speak_153 rfl ?_
        refine V_getR 154 flX8_77 dX8_speak_154 rfl ?_
        refine V_iload 157 8 dX8_speak_157 rfl ?_
        refine V_iald 159 dX8_speak_159 rfl (by omega) (by omega) ?_
        rw [a4]
        refine V_or 160 dX8_speak_160 ?_
        refine V_iload 161 6 dX8_speak_161 rfl ?_
        refine V_shr 163 dX8_speak_163 (by omega) (by omega) ?_
        refine V_cst 164 1 dX8_speak_164 rfl ?_
        refine V_and 165 dX8_speak_165 ?_
        refine V_zN_ne 166 172 dX8_speak_166 (by decide) (and_lt2 (by decide)) (fun c3 => ?_) (fun c3 => ?_)
        rotate_left
        · refine V_goto 169 251 dX8_speak_169 (by decide) ?_
          refine V_sub [(0, _), (1, _), (2, _), (3, _), (4, _), (5, _)] [0, 1, 2, 3, 4, 5] rfl ?_
          refine no (fun _ => hno (fun q => ?_))
          exact absurd c3 ((bitN_iff _ _).mpr q.2.2.2)
        have b3 : (C 8 (Y 4 j) ||| C 9 (Y 4 j)).testBit (s_who P Y j) = true := (bitN_iff _ _).mp c3
        have hsay : s_say P Y C j = s_said P Y C j := by
          unfold s_say
          rw [if_pos (hcan.mpr ⟨hd, b1, c2, b3⟩)]
        have hM' := said_MD (Y := Y) (s := j) ht hP y2 y4 hM0
        have e6 : s_said P Y C j 6 0 = C 6 0 ||| 2 ^ s_who P Y j := by unfold s_said; (try dsimp only); split <;> simp [w_put_eq]
        refine V_iload 172 4 dX8_speak_172 rfl ?_
        refine V_cst 174 1 dX8_speak_174 rfl ?_
        refine V_iload 175 6 dX8_speak_175 rfl ?_
        refine V_shl 177 dX8_speak_177 (by omega) ?_
        refine V_or 178 dX8_speak_178 ?_
        refine V_istore 179 [(0, _), (1, _), (2, _), (3, _), (4, _), (5, _), (6, _), (7, _), (8, _)] dX8_speak_179 (by decide) rfl ?_
        refine V_aload_n 181 0 dX8_speak_181 rfl ?_
        refine V_getR 182 flX8_65 dX8_speak_182 rfl ?_
        refine V_iload_n 185 1 dX8_speak_185 rfl ?_
        refine V_dup2 186 dX8_speak_186 rfl rfl ?_
        refine V_iald 187 dX8_speak_187 rfl (by omega) (by omega) ?_
        rw [m1, Nat.one_mul]
        refine V_aload_n 188 0 dX8_speak_188 rfl ?_
        refine V_getR 189 flX8_13 dX8_speak_189 rfl ?_
        refine V_iload 192 6 dX8_speak_192 rfl ?_
        refine V_iald 194 dX8_speak_194 rfl (by omega) (by omega) ?_
        rw [hMP.2.2.2.1 _ w2]
        refine V_add 195 dX8_speak_195 ?_
        refine V_iast 196 dX8_speak_196 rfl (by omega) (by omega) ?_
        refine V_aload_n 197 0 dX8_speak_197 rfl ?_
        refine V_getR 198 flX8_80 dX8_speak_198 rfl ?_
        refine V_aload_n 201 0 dX8_speak_201 rfl ?_
        refine V_getR 202 flX8_49 dX8_speak_202 rfl ?_
        refine V_iload 205 5 dX8_speak_205 rfl ?_
        refine V_iald 207 dX8_speak_207 rfl (by omega) (by omega) ?_
        rw [w_put_ne I 77 (by decide), v4]
        refine V_dup2 208 dX8_speak_208 rfl rfl ?_
        refine V_zald 209 dX8_speak_209 rfl (by omega) (by omega) ?_
        refine V_aload_n 210 0 dX8_speak_210 rfl ?_
        refine V_getR 211 flX8_77 dX8_speak_211 rfl ?_
        refine V_iload 214 8 dX8_speak_214 rfl ?_
        refine V_iald 216 dX8_speak_216 rfl (by omega) (by omega) ?_
        rw [w_put_ne I 86 (by decide), w_put_ne I 85 (by decide), a4, a5]
        have k230 : ∀ x, x < 2 → (x ≠ 0 ↔ (C 9 (Y 4 j)).testBit (s_oth P Y j) = false) → V mX8_speak E Ω 0 0 (SH u v) (w_put I 81 t (C 1 0 + P 1 (s_who P Y j))) L 230 [(0, .ref (Ω.1 + 63)), (1, .int (nI t)), (2, .int (nI m)), (3, .int (nI sp)), (4, .int (nI (C 6 0 ||| 2 ^ s_who P Y j))), (5, .int (nI j)), (6, .int (nI (s_who P Y j))), (7, .int (nI (s_oth P Y j))), (8, .int (nI (12 * t + Y 4 j)))] [.int (nI x), .int (nI (if (C 5 0).testBit (Y 4 j) then 1 else 0)), .int (nI (Y 4 j)), .ref (Ω.1 + 86)] := by
          intro x hx ex
          have hg : (if (C 5 0).testBit (Y 4 j) = true then 1 else 0) ||| x = (if (C 5 0).testBit (Y 4 j) = true ∨ (C 9 (Y 4 j)).testBit (s_oth P Y j) = false then 1 else 0) := by
            rcases (show x = 0 ∨ x = 1 by omega) with rfl | rfl
            · have : ¬ (C 9 (Y 4 j)).testBit (s_oth P Y j) = false := fun h => absurd rfl (ex.mpr h)
              cases h5 : (C 5 0).testBit (Y 4 j) <;> simp [this]
            · have : (C 9 (Y 4 j)).testBit (s_oth P Y j) = false := ex.mp (by decide)
              cases h5 : (C 5 0).testBit (Y 4 j) <;> simp [this]
          have hz : (if (C 5 0).testBit (Y 4 j) = true ∨ (C 9 (Y 4 j)).testBit (s_oth P Y j) = false then 1 else 0) = 0 ∨ (if (C 5 0).testBit (Y 4 j) = true ∨ (C 9 (Y 4 j)).testBit (s_oth P Y j) = false then 1 else 0) = 1 := by
            split
            · exact Or.inr rfl
            · exact Or.inl rfl
          refine V_or 230 dX8_speak_230 ?_
          rw [hg]
          refine V_zast 231 dX8_speak_231 rfl (by omega) (by omega) (by first | exact Or.inl rfl | exact Or.inr rfl | assumption) ?_
          refine V_aload_n 232 0 dX8_speak_232 rfl ?_
          refine V_getR 233 flX8_77 dX8_speak_233 rfl ?_
          refine V_iload 236 8 dX8_speak_236 rfl ?_
          refine V_dup2 238 dX8_speak_238 rfl rfl ?_
          refine V_iald 239 dX8_speak_239 rfl (by omega) (by omega) ?_
          rw [w_put_ne _ 85 (by decide), w_put_ne I 85 (by decide), a4]
          refine V_cst 240 1 dX8_speak_240 rfl ?_
          refine V_iload 241 6 dX8_speak_241 rfl ?_
          refine V_shl 243 dX8_speak_243 (by omega) ?_
          refine V_cst 244 1 dX8_speak_244 rfl ?_
          refine V_iload 245 7 dX8_speak_245 rfl ?_
          refine V_shl 247 dX8_speak_247 (by omega) ?_
          refine V_or 248 dX8_speak_248 ?_
          refine V_or 249 dX8_speak_249 ?_
          refine V_iast 250 dX8_speak_250 rfl (by omega) (by omega) ?_
          refine V_sub [(0, _), (1, _), (2, _), (3, _), (4, _), (5, _)] [0, 1, 2, 3, 4, 5] rfl ?_
          refine V_inc 251 5 _ [(0, _), (1, _), (2, _), (3, _), (4, _), (5, _)] dX8_speak_251 rfl rfl rfl (by decide) rfl ?_
          refine V_goto 254 6 dX8_speak_254 (by decide) ?_
          rw [Nat.one_mul, Nat.one_mul, both_wo, ← e6]
          have hf : FrD t I (w_put (w_put (w_put I 81 t (C 1 0 + P 1 (s_who P Y j))) 86 (Y 4 j) (if (C 5 0).testBit (Y 4 j) = true ∨ (C 9 (Y 4 j)).testBit (s_oth P Y j) = false then 1 else 0)) 85 (12 * t + Y 4 j) (C 9 (Y 4 j) ||| s_both P (Y 2 j))) := (FrD.rf.p84.p89).put (by decide) (by decide) (by omega) (by omega)
          refine ih (j + 1) (s_said P Y C j) _ (by omega) (by rw [← hsay]; exact hH.say j (by omega)) (by rw [← hsay]; exact s_say_ok hC hP y2 y4) (hf.mp hMP) (hf.my hMY) hM' (fun I' C' x h1 h2 h3 => hk I' C' x ?_ h2 (hf.trans h3))
          rw [h1, List.range'_succ, List.filter_cons, if_pos (by simpa using c0), List.foldl_cons, hsay]
        refine V_iload 217 7 dX8_speak_217 rfl ?_
        refine V_shr 219 dX8_speak_219 (by omega) (by omega) ?_
        refine V_cst 220 1 dX8_speak_220 rfl ?_
        refine V_and 221 dX8_speak_221 ?_
        refine V_zN_ne 222 229 dX8_speak_222 (by decide) (and_lt2 (by decide)) (fun c4 => ?_) (fun c4 => ?_)
        · refine V_cst 229 0 dX8_speak_229 rfl ?_
          refine k230 0 (by decide) ⟨fun h => absurd rfl h, fun h => ?_⟩
          have := (bitN_iff _ _).mp c4
          rw [h] at this
          exact absurd this (by decide)
        · refine V_cst 225 1 dX8_speak_225 rfl ?_
          refine V_goto 226 230 dX8_speak_226 (by decide) ?_
          refine k230 1 (by decide) ⟨fun _ => ?_, fun _ => by decide⟩
          cases h : (C 9 (Y 4 j)).testBit (s_oth P Y j)
          · rfl
          · exact absurd c4 ((bitN_iff _ _).mpr h)
      refine V_aload_n 56 0 dX8_speak_56 rfl ?_
      refine V_getR 57 flX8_46 dX8_speak_57 rfl ?_
      refine V_iload 60 5 dX8_speak_60 rfl ?_
      refine V_iald 62 dX8_speak_62 rfl (by omega) (by omega) ?_
      rw [v3]
      by_cases c3 : Y 3 j = 0
      · have ew : s_who P Y j = P 3 m := by unfold s_who; rw [if_pos c3, c0]
        have eo : s_oth P Y j = P 4 m := by unfold s_oth; rw [if_pos c3, c0]
        rw [ew, eo] at k110
        refine V_zN_ne 63 75 dX8_speak_63 (by decide) (by omega) (fun c4 => ?_) (fun c4 => ?_)
        · exact absurd c3 c4
        refine V_aload_n 66 0 dX8_speak_66 rfl ?_
        refine V_getR 67 flX8_16 dX8_speak_67 rfl ?_
        refine V_iload_n 70 2 dX8_speak_70 rfl ?_
        refine V_iald 71 dX8_speak_71 rfl (by omega) (by omega) ?_
        rw [z1]
        refine V_goto 72 81 dX8_speak_72 (by decide) ?_
        refine V_istore 81 [(0, _), (1, _), (2, _), (3, _), (4, _), (5, _), (6, _)] dX8_speak_81 (by decide) rfl ?_
        refine V_aload_n 83 0 dX8_speak_83 rfl ?_
        refine V_getR 84 flX8_46 dX8_speak_84 rfl ?_
        refine V_iload 87 5 dX8_speak_87 rfl ?_
        refine V_iald 89 dX8_speak_89 rfl (by omega) (by omega) ?_
        rw [v3]
        refine V_zN_ne 90 102 dX8_speak_90 (by decide) (by omega) (fun c5 => ?_) (fun c5 => ?_)
        · exact absurd c3 c5
        refine V_aload_n 93 0 dX8_speak_93 rfl ?_
        refine V_getR 94 flX8_19 dX8_speak_94 rfl ?_
        refine V_iload_n 97 2 dX8_speak_97 rfl ?_
        refine V_iald 98 dX8_speak_98 rfl (by omega) (by omega) ?_
        rw [z2]
        refine V_goto 99 108 dX8_speak_99 (by decide) ?_
        refine V_istore 108 [(0, _), (1, _), (2, _), (3, _), (4, _), (5, _), (6, _), (7, _)] dX8_speak_108 (by decide) rfl ?_
        exact k110
      · have ew : s_who P Y j = P 4 m := by unfold s_who; rw [if_neg c3, c0]
        have eo : s_oth P Y j = P 3 m := by unfold s_oth; rw [if_neg c3, c0]
        rw [ew, eo] at k110
        refine V_zN_ne 63 75 dX8_speak_63 (by decide) (by omega) (fun c4 => ?_) (fun c4 => ?_)
        rotate_left
        · exact absurd c4 c3
        refine V_aload_n 75 0 dX8_speak_75 rfl ?_
        refine V_getR 76 flX8_19 dX8_speak_76 rfl ?_
        refine V_iload_n 79 2 dX8_speak_79 rfl ?_
        refine V_iald 80 dX8_speak_80 rfl (by omega) (by omega) ?_
        rw [z2]
        refine V_istore 81 [(0, _), (1, _), (2, _), (3, _), (4, _), (5, _), (6, _)] dX8_speak_81 (by decide) rfl ?_
        refine V_aload_n 83 0 dX8_speak_83 rfl ?_
        refine V_getR 84 flX8_46 dX8_speak_84 rfl ?_
        refine V_iload 87 5 dX8_speak_87 rfl ?_
        refine V_iald 89 dX8_speak_89 rfl (by omega) (by omega) ?_
        rw [v3]
        refine V_zN_ne 90 102 dX8_speak_90 (by decide) (by omega) (fun c5 => ?_) (fun c5 => ?_)
        rotate_left
        · exact absurd c5 c3
        refine V_aload_n 102 0 dX8_speak_102 rfl ?_
        refine V_getR 103 flX8_16 dX8_speak_103 rfl ?_
        refine V_iload_n 106 2 dX8_speak_106 rfl ?_
        refine V_iald 107 dX8_speak_107 rfl (by omega) (by omega) ?_
        rw [z1]
        refine V_istore 108 [(0, _), (1, _), (2, _), (3, _), (4, _), (5, _), (6, _), (7, _)] dX8_speak_108 (by decide) rfl ?_
        exact k110
    refine V_aload_n 26 0 dX8_speak_26 rfl ?_
    refine V_getR 27 flX8_40 dX8_speak_27 rfl ?_
    refine V_iload 30 5 dX8_speak_30 rfl ?_
    refine V_iald 32 dX8_speak_32 rfl (by omega) (by omega) ?_
    refine V_cst 33 4294967295 dX8_speak_33 rfl ?_
    rw [v1]
    refine V_cN_eq 34 56 dX8_speak_34 (by decide) (by omega) (by omega) (fun c1 => ?_) (fun c1 => ?_)
    · exact k56 (Or.inl c1)
    refine V_aload_n 37 0 dX8_speak_37 rfl ?_
    refine V_getR 38 flX8_40 dX8_speak_38 rfl ?_
    refine V_iload 41 5 dX8_speak_41 rfl ?_
    refine V_iald 43 dX8_speak_43 rfl (by omega) (by omega) ?_
    refine V_aload_n 44 0 dX8_speak_44 rfl ?_
    refine V_getR 45 flX8_62 dX8_speak_45 rfl ?_
    refine V_iload_n 48 1 dX8_speak_48 rfl ?_
    refine V_iald 49 dX8_speak_49 rfl (by omega) (by omega) ?_
    rw [v1, m0]
    refine V_cN_eq 50 56 dX8_speak_50 (by decide) (by omega) (by omega) (fun c2 => ?_) (fun c2 => ?_)
    · exact k56 (Or.inr c2)
    · refine V_goto 53 251 dX8_speak_53 (by decide) ?_
      exact no (fun _ => hno (fun q => by rcases q.1 with e | e; exact c1 e; exact c2 e))
theorem m_speak {C : w_R} {I : w_I} {D : Nat → Prop} {m : Nat} (ht : t < 3) (hP : s_POK P) (hY : s_YOK P Y) (hm : m < P 2 0) (hH : HI P D C) (hC : COK C) (hMP : MP P I) (hMY : MY Y I) (hM : MD t P C I) : FnI Ω d mX8_speak [.ref (Ω.1 + 63), .int (nI t), .int (nI m), .int (nI (C 6 0))] (SH u v) I L (fun r S' I' L' => r = nI ((s_sm Y m).foldl (s_say P Y) C 6 0) ∧ S' = SH u v ∧ L = L' ∧ MD t P ((s_sm Y m).foldl (s_say P Y) C) I' ∧ FrD t I I') := by
  refine FnR_of okX8_speak (Nat.le_of_ble_eq_true rfl) fun l z => ?_
  show V _ _ _ _ _ _ _ _ 0 [(0, _), (1, _), (2, _), (3, _)] []
  refine V_iload_n 0 3 dX8_speak_0 rfl ?_
  refine V_istore 1 [(0, _), (1, _), (2, _), (3, _), (4, _)] dX8_speak_1 (by decide) rfl ?_
  refine V_cst 3 0 dX8_speak_3 rfl ?_
  refine V_istore 4 [(0, _), (1, _), (2, _), (3, _), (4, _), (5, _)] dX8_speak_4 (by decide) rfl ?_
  refine sp_l ht hP hY hm (Y 0 0) 0 C I (by omega) hH hC hMP hMY hM (fun I' C' x h1 h2 h3 => ?_)
  rw [← List.range_eq_range'] at h1
  have h1 : C' = (s_sm Y m).foldl (s_say P Y) C := h1
  subst h1
  refine V_iload 257 4 dX8_speak_257 rfl ?_
  exact V_iret 259 dX8_speak_259 rfl ⟨rfl, rfl, rfl, h2, h3⟩
end
