section
variable {Ω : w_O} {d u v : Nat} {L : w_L} {E : w_E} {P : w_R}
theorem tf_f1 {K : Nat} (hK64 : K < 64) : ∀ (n j : Nat) (J : w_I), j + n = 64 →
    (∀ J', (∀ q, q < 64 → J' 93 (64 * K + q) = if j ≤ q then NVR else J 93 (64 * K + q)) → (∀ q, q < 64 * K ∨ 64 * K + 64 ≤ q → J' 93 q = J 93 q) → (∀ i, i ≠ 93 → J' i = J i) → V mX8_tellFare E Ω 0 0 (SH u v) J' L 141 [(0, .ref (Ω.1 + 63)), (1, .int (nI K)), (2, .int (nI 64))] []) →
    V mX8_tellFare E Ω 0 0 (SH u v) J L 115 [(0, .ref (Ω.1 + 63)), (1, .int (nI K)), (2, .int (nI j))] [] := by
  intro n
  induction n with
  | zero =>
    intro j J hj hk
    have e : j = 64 := by omega
    subst e
    refine V_iload_n 115 2 dX8_tellFare_115 rfl ?_
    refine V_bip 116 64 dX8_tellFare_116 rfl ?_
    refine V_cN_ge 118 141 dX8_tellFare_118 (by decide) (by omega) (by omega) (fun c => ?_) (fun c => ?_)
    · exact hk J (fun q hq => by rw [if_neg (by omega)]) (fun _ _ => rfl) (fun _ _ => rfl)
    · omega
  | succ n ih =>
    intro j J hj hk
    refine V_iload_n 115 2 dX8_tellFare_115 rfl ?_
    refine V_bip 116 64 dX8_tellFare_116 rfl ?_
    refine V_cN_ge 118 141 dX8_tellFare_118 (by decide) (by omega) (by omega) (fun c => ?_) (fun c => ?_)
    · omega
    refine V_aload_n 121 0 dX8_tellFare_121 rfl ?_
    refine V_getR 122 flX8_103 dX8_tellFare_122 rfl ?_
    refine V_bip 125 64 dX8_tellFare_125 rfl ?_
    refine V_iload_n 127 1 dX8_tellFare_127 rfl ?_
    refine V_mul 128 dX8_tellFare_128 ?_
    refine V_iload_n 129 2 dX8_tellFare_129 rfl ?_
    refine V_add 130 dX8_tellFare_130 ?_
    refine V_ldcwN 131 1000000000 kcX8_301 dX8_tellFare_131 rfl ?_
    refine V_iast 134 dX8_tellFare_134 rfl (by omega) (by omega) ?_
    refine V_inc 135 2 _ [(0, _), (1, _), (2, _)] dX8_tellFare_135 rfl rfl rfl (by decide) rfl ?_
    refine V_goto 138 115 dX8_tellFare_138 (by decide) ?_
    refine ih (j + 1) _ (by omega) (fun J' h1 h3 h2 => hk J' (fun q hq => ?_) (fun q hq => ?_) (fun i hi => ?_))
    · refine lp_if (fun e => ?_) (fun e => ?_) (h1 q hq) rfl
      · rw [w_put_other _ (Or.inr (by omega))]
      · rw [e, w_put_same]
    · rw [h3 q hq, w_put_other _ (Or.inr (by omega))]
    · rw [h2 i hi, w_put_ne _ _ hi]
theorem tf_f2 {K si : Nat} {w : Nat → Nat} {Q : List Nat} {vl : Nat → Nat} (hE : w_fit d E) (hP : s_POK P) (hw : ∀ x, x < P 0 0 → w x ≤ 99) (hK64 : K < 64) (hn : Q.length ≤ 8192) (hFS : FS P K si w (P 2 0) Q vl) : ∀ (n k : Nat) (J : w_I), k + n = Q.length → J 63 50 = Q.length → OQ (P 2 0 % 2) Q vl J → (∀ h, h < 64 → (J 93 (64 * K + h) = NVR ∨ ∃ s r, rR P K si w (P 2 0) h s 1 (J 93 (64 * K + h)) r) ∧ ∀ t, t < k → ∀ s, Q.getD t 0 = r_c h s 1 → s < 64 → J 93 (64 * K + h) ≤ vl (Q.getD t 0)) →
    (∀ J' x, FO P K si w J' → (∀ q, q < 64 * K ∨ 64 * K + 64 ≤ q → J' 93 q = J 93 q) → (∀ i, i ≠ 93 → J' i = J i) → V mX8_tellFare E Ω 0 0 (SH u v) J' L 228 [(0, .ref (Ω.1 + 63)), (1, .int (nI K)), (2, .int (nI (8192 * (P 2 0 % 2)))), (3, .int (nI x))] []) →
    V mX8_tellFare E Ω 0 0 (SH u v) J L 156 [(0, .ref (Ω.1 + 63)), (1, .int (nI K)), (2, .int (nI (8192 * (P 2 0 % 2)))), (3, .int (nI k))] [] := by
  have h6 := hP.1.2
  have h64 : 2 ^ P 0 0 ≤ 64 := Nat.pow_le_pow_right (n := 2) (j := 6) (by decide) h6
  have hm2 : P 2 0 % 2 < 2 := Nat.mod_lt _ (by decide)
  intro n
  induction n with
  | zero =>
    intro k J hk h50 hO hI hkk
    have e : k = Q.length := by omega
    subst e
    refine V_iload_n 156 3 dX8_tellFare_156 rfl ?_
    refine V_aload_n 157 0 dX8_tellFare_157 rfl ?_
    refine V_getI 158 flX8_319 dX8_tellFare_158 rfl ?_
    rw [h50]
    refine V_cN_ge 161 228 dX8_tellFare_161 (by decide) (by omega) (by omega) (fun cb => ?_) (fun cb => ?_)
    · refine hkk J _ (fun h hh => ⟨(hI h hh).1, fun s c r hR => ?_⟩) (fun _ _ => rfl) (fun _ _ => rfl)
      obtain ⟨b1, b2, -⟩ := rR_b hP hw (P 2 0) (Nat.le_refl _) h s 1 c r hR
      obtain ⟨g1, g2⟩ := hFS.2 (r_c h s 1) c ⟨h, s, 1, r, hR, rfl⟩
      obtain ⟨t, ht, et⟩ := mem_getD g1
      have := (hI h hh).2 t ht s et (by omega)
      rw [et] at this
      omega
    · omega
  | succ n ih =>
    intro k J hk h50 hO hI hkk
    have hm := getD_mem (Q := Q) (k := k) (by omega)
    obtain ⟨h, s, a, r, hR, ec, hh, hs6, ha, hy⟩ := RC.d hP hw (Nat.le_refl _) (hFS.1 _ hm)
    have hv := hO.2 _ hm
    have hcl : Q.getD k 0 < 8192 := by rw [ec]; unfold r_c; omega
    have d1 : Q.getD k 0 / 2 / 64 = h := by rw [ec]; unfold r_c; omega
    have d3 : Q.getD k 0 % 2 = a := by rw [ec]; unfold r_c; omega
    have hb : J 93 (64 * K + h) ≤ NVR := by
      rcases (hI h hh).1 with e | ⟨s', r', hR'⟩
      · omega
      · obtain ⟨-, -, -, -, b5, -⟩ := rR_b hP hw (P 2 0) (Nat.le_refl _) _ _ _ _ _ hR'
        have := hP.2.2.1
        show _ ≤ 1000000000
        omega
    have hNV : NVR = 1000000000 := rfl
    refine V_iload_n 156 3 dX8_tellFare_156 rfl ?_
    refine V_aload_n 157 0 dX8_tellFare_157 rfl ?_
    refine V_getI 158 flX8_319 dX8_tellFare_158 rfl ?_
    rw [h50]
    refine V_cN_ge 161 228 dX8_tellFare_161 (by decide) (by omega) (by omega) (fun cb => ?_) (fun cb => ?_)
    · omega
    refine V_aload_n 164 0 dX8_tellFare_164 rfl ?_
    refine V_getR 165 flX8_109 dX8_tellFare_165 rfl ?_
    refine V_iload_n 168 2 dX8_tellFare_168 rfl ?_
    refine V_iload_n 169 3 dX8_tellFare_169 rfl ?_
    refine V_add 170 dX8_tellFare_170 ?_
    refine V_iald 171 dX8_tellFare_171 rfl (by omega) (by omega) ?_
    rw [hO.1 k (by omega)]
    refine V_istore 172 [(0, _), (1, _), (2, _), (3, _), (4, _)] dX8_tellFare_172 (by decide) rfl ?_
    refine V_bip 174 64 dX8_tellFare_174 rfl ?_
    refine V_iload_n 176 1 dX8_tellFare_176 rfl ?_
    refine V_mul 177 dX8_tellFare_177 ?_
    refine V_iload 178 4 dX8_tellFare_178 rfl ?_
    refine V_cst 180 2 dX8_tellFare_180 rfl ?_
    refine V_div 181 dX8_tellFare_181 (by omega) (by omega) (by omega) ?_
    refine V_bip 182 64 dX8_tellFare_182 rfl ?_
    refine V_div 184 dX8_tellFare_184 (by omega) (by omega) (by omega) ?_
    refine V_add 185 dX8_tellFare_185 ?_
    rw [d1]
    refine V_istore 186 [(0, _), (1, _), (2, _), (3, _), (4, _), (5, _)] dX8_tellFare_186 (by decide) rfl ?_
    refine V_iload 188 4 dX8_tellFare_188 rfl ?_
    refine V_cst 190 2 dX8_tellFare_190 rfl ?_
    refine V_rem 191 dX8_tellFare_191 (by omega) (by omega) (by omega) ?_
    refine V_cst 192 1 dX8_tellFare_192 rfl ?_
    rw [d3]
    refine V_cN_ne 193 222 dX8_tellFare_193 (by decide) (by omega) (by omega) (fun c1 => ?_) (fun c1 => ?_)
    · refine V_inc 222 3 _ [(0, _), (1, _), (2, _), (3, _), (4, _), (5, _)] dX8_tellFare_222 rfl rfl rfl (by decide) rfl ?_
      refine V_sub [(0, _), (1, _), (2, _), (3, _)] [0, 1, 2, 3] rfl ?_
      refine V_goto 225 156 dX8_tellFare_225 (by decide) ?_
      refine V_sub [(0, _), (1, _), (2, _), (3, _)] [0, 1, 2, 3] rfl ?_
      refine ih (k + 1) J (by omega) h50 hO (fun h' hh' => ⟨(hI h' hh').1, fun t ht s' e1 e2 => ?_⟩) hkk
      by_cases e : t = k
      · subst e
        rw [ec] at e1
        obtain ⟨-, -, e4⟩ := r_c_inj hs6 ha e2 (by decide) e1
        exact absurd e4 c1
      · exact (hI h' hh').2 t (by omega) s' e1 e2
    · subst c1
      refine V_aload_n 196 0 dX8_tellFare_196 rfl ?_
      refine V_getR 197 flX8_103 dX8_tellFare_197 rfl ?_
      refine V_iload 200 5 dX8_tellFare_200 rfl ?_
      refine V_aload_n 202 0 dX8_tellFare_202 rfl ?_
      refine V_getR 203 flX8_103 dX8_tellFare_203 rfl ?_
      refine V_iload 206 5 dX8_tellFare_206 rfl ?_
      refine V_iald 208 dX8_tellFare_208 rfl (by omega) (by omega) ?_
      refine V_aload_n 209 0 dX8_tellFare_209 rfl ?_
      refine V_getR 210 flX8_112 dX8_tellFare_210 rfl ?_
      refine V_iload_n 213 2 dX8_tellFare_213 rfl ?_
      refine V_iload 214 4 dX8_tellFare_214 rfl ?_
      refine V_add 216 dX8_tellFare_216 ?_
      refine V_iald 217 dX8_tellFare_217 rfl (by omega) (by omega) ?_
      rw [hv]
      refine V_mini 218 (by omega) (by omega) mnX8_164 dX8_tellFare_218 (w_fit.mono (by omega) hE) (Nat.le_of_ble_eq_true rfl) ?_
      refine V_iast 221 dX8_tellFare_221 rfl (by omega) (by omega) ?_
      refine V_inc 222 3 _ [(0, _), (1, _), (2, _), (3, _), (4, _), (5, _)] dX8_tellFare_222 rfl rfl rfl (by decide) rfl ?_
      refine V_sub [(0, _), (1, _), (2, _), (3, _)] [0, 1, 2, 3] rfl ?_
      refine V_goto 225 156 dX8_tellFare_225 (by decide) ?_
      refine V_sub [(0, _), (1, _), (2, _), (3, _)] [0, 1, 2, 3] rfl ?_
      refine ih (k + 1) _ (by omega) (by rw [w_put_ne _ 63 (by decide)]; exact h50) (by unfold OQ; rw [w_put_ne _ 95 (by decide), w_put_ne _ 96 (by decide)]; exact hO) (fun h' hh' => ?_) (fun J' x g1 g2 g3 => hkk J' x g1 (fun q hq => by rw [g2 q hq, w_put_other _ (Or.inr (by omega))]) (fun i hi => by rw [g3 i hi, w_put_ne _ _ hi]))
      by_cases e : h' = h
      · subst e
        rw [w_put_same]
        refine ⟨?_, fun t ht s' e1 e2 => ?_⟩
        · rcases Nat.le_total (J 93 (64 * K + h')) (vl (Q.getD k 0)) with q | q
          · rw [Nat.min_eq_left q]; exact (hI h' hh').1
          · rw [Nat.min_eq_right q]; exact Or.inr ⟨s, r, hR⟩
        · by_cases e : t = k
          · subst e; exact Nat.min_le_right _ _
          · exact Nat.le_trans (Nat.min_le_left _ _) ((hI h' hh').2 t (by omega) s' e1 e2)
      · rw [w_put_other _ (Or.inr (by omega))]
        refine ⟨(hI h' hh').1, fun t ht s' e1 e2 => ?_⟩
        by_cases e3 : t = k
        · subst e3
          rw [ec] at e1
          obtain ⟨e4, -⟩ := r_c_inj hs6 ha e2 (by decide) e1
          exact absurd e4.symm e
        · exact (hI h' hh').2 t (by omega) s' e1 e2
theorem m_tellFare {I : w_I} {K si ks : Nat} (hP : s_POK P) (hK : KF P si ks I) (hks : ks = 0 ∨ ks = 1) (hK64 : K < 64) (hsi : si < 64) (hM : MS I) (hS : I 63 52 + 13 < 2000000000) : FnV Ω (d + 3) mX8_tellFare [.ref (Ω.1 + 63), .int (nI K)] (SH u v) I L (fun S' I' L' => S' = SH u v ∧ L = L' ∧ KF P si ks I' ∧ MS I' ∧ I' 63 52 ≤ I 63 52 + 13 ∧ FO P K si (r_p P ks) I' ∧ (∀ q, q < 64 * K ∨ 64 * K + 64 ≤ q → I' 93 q = I 93 q) ∧ (∀ k, I' 94 k = if k = K then 1 else I 94 k) ∧ FrK I I') := by
  have h12 := hP.2.2.1
  refine FnR_of1 okX8_tellFare (Nat.le_of_ble_eq_true rfl) fun l z hE => ?_
  show V _ _ _ _ _ _ _ _ 0 [(0, _), (1, _)] []
  refine V_aload_n 0 0 dX8_tellFare_0 rfl ?_
  refine V_iload_n 1 1 dX8_tellFare_1 rfl ?_
  refine V_putI 2 flX8_298 ft_8_42 dX8_tellFare_2 rfl ?_
  refine V_aload_n 5 0 dX8_tellFare_5 rfl ?_
  refine V_dup 6 dX8_tellFare_6 rfl ?_
  refine V_getI 7 flX8_309 dX8_tellFare_7 rfl ?_
  rw [w_put_other _ (Or.inr (by decide))]
  refine V_cst 10 1 dX8_tellFare_10 rfl ?_
  refine V_add 11 dX8_tellFare_11 ?_
  refine V_putI 12 flX8_309 ft_8_52 dX8_tellFare_12 rfl ?_
  refine V_aload_n 15 0 dX8_tellFare_15 rfl ?_
  refine V_cst 16 0 dX8_tellFare_16 rfl ?_
  refine V_putI 17 flX8_312 ft_8_51 dX8_tellFare_17 rfl ?_
  refine V_aload_n 20 0 dX8_tellFare_20 rfl ?_
  refine V_cst 21 0 dX8_tellFare_21 rfl ?_
  refine V_cst 22 0 dX8_tellFare_22 rfl ?_
  refine V_cst 23 0 dX8_tellFare_23 rfl ?_
  refine V_cst 24 0 dX8_tellFare_24 rfl ?_
  refine V_cst 25 0 dX8_tellFare_25 rfl ?_
  have fr : FrK I (w_put (w_put (w_put I 63 42 K) 63 52 (I 63 52 + 1)) 63 51 0) := ((FrK.rf.put (Or.inr ⟨rfl, by decide⟩)).put (Or.inr ⟨rfl, by decide⟩)).put (Or.inr ⟨rfl, by decide⟩)
  have fo : ∀ i, i ≠ 63 → w_put (w_put (w_put I 63 42 K) 63 52 (I 63 52 + 1)) 63 51 0 i = I i := fun i hi => by rw [w_put_ne _ _ hi, w_put_ne _ _ hi, w_put_ne _ _ hi]
  have f66 : ∀ j, j ≠ 42 → j ≠ 51 → j ≠ 52 → w_put (w_put (w_put I 63 42 K) 63 52 (I 63 52 + 1)) 63 51 0 63 j = I 63 j := fun j a b c => by rw [w_put_other _ (Or.inr b), w_put_other _ (Or.inr c), w_put_other _ (Or.inr a)]
  have f52 : w_put (w_put (w_put I 63 42 K) 63 52 (I 63 52 + 1)) 63 51 0 63 52 = I 63 52 + 1 := by rw [w_put_other _ (Or.inr (by decide)), w_put_same]
  have f42 : w_put (w_put (w_put I 63 42 K) 63 52 (I 63 52 + 1)) 63 51 0 63 42 = K := by rw [w_put_other _ (Or.inr (by decide)), w_put_other _ (Or.inr (by decide)), w_put_same]
  have hQ1 : FQ 0 [] (fun _ => 0) (w_put (w_put (w_put I 63 42 K) 63 52 (I 63 52 + 1)) 63 51 0) := by
    have hM0 : MS (w_put I 63 42 K) := hM.of (w_put_other _ (Or.inr (by decide))) (w_put_ne _ _ (by decide))
    have := FQ.fresh (sd := 0) (vl := fun _ => 0) (by decide) hM0
    rw [w_put_other I (Or.inr (by decide))] at this
    exact this
  generalize w_put (w_put (w_put I 63 42 K) 63 52 (I 63 52 + 1)) 63 51 0 = J at fr fo f66 f52 f42 hQ1 ⊢
  have hKJ : KF P si ks J := ⟨fr.mp hK.1, by rw [f66 43 (by decide) (by decide) (by decide)]; exact hK.2.1, by rw [f66 44 (by decide) (by decide) (by decide)]; exact hK.2.2.1, fun j hj => by rw [fo 87 (by decide)]; exact hK.2.2.2 j hj⟩
  refine V_vv 26 mvX8_315 dX8_tellFare_26 ⟨_, _, _, rfl, rfl, rfl⟩ (w_fit.mono (by omega) hE) (m_offer (d := d + 1) (sd := 0) (h := 0) (s := 0) (a := 0) (x := 0) (by decide) (by decide) (by decide) (by decide) (by decide) (by rw [f52]; omega) hQ1) rfl (Nat.le_of_ble_eq_true rfl) ?_
  rintro _ J1 _ ⟨rfl, rfl, g1, Q1, v1, g2, g3⟩
  refine V_aload_n 29 0 dX8_tellFare_29 rfl ?_
  refine V_aload_n 30 0 dX8_tellFare_30 rfl ?_
  refine V_getI 31 flX8_312 dX8_tellFare_31 rfl ?_
  rw [g2.1]
  refine V_putI 34 flX8_319 ft_8_50 dX8_tellFare_34 rfl ?_
  refine V_cst 37 0 dX8_tellFare_37 rfl ?_
  refine V_istore_n 38 [(0, _), (1, _), (2, _)] dX8_tellFare_38 (by decide) rfl ?_
  have hlen := nodup_len g2.2.1 (fun c hc => (g2.2.2.2.2.1 c hc).1)
  have hK0 := g1.kf hKJ
  have hK2 : KF P si ks (w_put J1 63 50 Q1.length) := ⟨(FrK.rf.put (Or.inr ⟨rfl, by decide⟩)).mp hK0.1, by rw [w_put_other _ (Or.inr (by decide))]; exact hK0.2.1, by rw [w_put_other _ (Or.inr (by decide))]; exact hK0.2.2.1, fun j hj => by rw [w_put_ne _ 87 (by decide)]; exact hK0.2.2.2 j hj⟩
  have s52 : w_put J1 63 50 Q1.length 63 52 = I 63 52 + 1 := by rw [w_put_other _ (Or.inr (by decide)), g1.2.1 52 (by decide), f52]
  have hFS0 : FS P K si (r_p P ks) 0 Q1 v1 := by
    refine ⟨fun c hc => ?_, fun c y hR => ?_⟩
    · rcases g3.1 c hc with ⟨q, -⟩ | ⟨q1, q2⟩
      · exact absurd q (List.not_mem_nil)
      · exact ⟨0, 0, 0, 0, ⟨rfl, rfl, rfl, q2, rfl⟩, q1⟩
    · obtain ⟨h, s, a, r, ⟨rfl, rfl, rfl, rfl, rfl⟩, rfl⟩ := hR
      exact g3.2.2 _ _ ⟨rfl, rfl⟩
  refine tf_out (d := d) (K := K) (si := si) (ks := ks) hE hP hks hK64 hsi (P 2 0) 0 Q1 v1 _ (by omega) hK2 (by rw [w_put_other _ (Or.inr (by decide)), g1.2.1 42 (by decide)]; exact f42) (w_put_same _ _ _ _) (by rw [s52]; omega) ⟨fun k hk => ?_, fun c hc => ?_⟩ hlen (MS.of g2.2.2.2.2.2 (by rw [w_put_other _ (Or.inr (by decide))]) (w_put_ne _ _ (by decide))) hFS0 (fun Q2 v2 J2 a1 a2 a3 a4 a5 a6 a7 a8 a9 a10 => ?_)
  · rw [w_put_ne _ 95 (by decide)]; exact g2.2.2.1 k hk
  · rw [w_put_ne _ 96 (by decide)]; exact (g2.2.2.2.2.1 c hc).2.1
  have fr2 : FrK I J2 := (fr.trans (g1.k.put (Or.inr ⟨rfl, by decide⟩))).trans a8
  have e96 : J2 93 = I 93 := by rw [a9, w_put_ne _ 93 (by decide), g1.1 93 (by decide) (by decide) (by decide) (by decide), fo 93 (by decide)]
  have e97 : J2 94 = I 94 := by rw [a10, w_put_ne _ 94 (by decide), g1.1 94 (by decide) (by decide) (by decide) (by decide), fo 94 (by decide)]
  rw [s52] at a3
  refine V_cst 113 0 dX8_tellFare_113 rfl ?_
  refine V_istore_n 114 [(0, _), (1, _), (2, _)] dX8_tellFare_114 (by decide) rfl ?_
  refine tf_f1 hK64 64 0 J2 (by omega) (fun J3 b1 b2 b3 => ?_)
  have fr3 : FrK I J3 := fr2.trans ⟨fun i p q => b3 i (by omega), fun j _ => by rw [b3 63 (by decide)]⟩
  have hKJ3 : KF P si ks J3 := ⟨fr3.mp hK.1, by rw [b3 63 (by decide)]; exact a1.2.1, by rw [b3 63 (by decide)]; exact a1.2.2.1, fun j hj => by rw [b3 87 (by decide)]; exact a1.2.2.2 j hj⟩
  have hm2 : P 2 0 % 2 < 2 := Nat.mod_lt _ (by decide)
  refine V_sip 141 8192 dX8_tellFare_141 rfl ?_
  refine V_aload_n 144 0 dX8_tellFare_144 rfl ?_
  refine V_getR 145 flX8_7 dX8_tellFare_145 rfl ?_
  refine V_cst 148 1 dX8_tellFare_148 rfl ?_
  refine V_iald 149 dX8_tellFare_149 rfl (by omega) (by omega) ?_
  rw [hKJ3.1.2.1]
  refine V_cst 150 2 dX8_tellFare_150 rfl ?_
  refine V_rem 151 dX8_tellFare_151 (by omega) (by omega) (by omega) ?_
  refine V_mul 152 dX8_tellFare_152 ?_
  refine V_istore_n 153 [(0, _), (1, _), (2, _)] dX8_tellFare_153 (by decide) rfl ?_
  refine V_cst 154 0 dX8_tellFare_154 rfl ?_
  refine V_istore_n 155 [(0, _), (1, _), (2, _), (3, _)] dX8_tellFare_155 (by decide) rfl ?_
  refine tf_f2 (si := si) hE hP (r_p_le (ks := ks) hP) hK64 a5 a7 Q2.length 0 J3 (by omega) (by rw [b3 63 (by decide)]; exact a2) (by unfold OQ; rw [b3 95 (by decide), b3 96 (by decide)]; exact a4) (fun h hh => ⟨Or.inl (by rw [b1 h hh, if_pos (Nat.zero_le _)]), fun t ht => absurd ht (Nat.not_lt_zero _)⟩) (fun J4 x c1 c2 c3 => ?_)
  have fr4 : FrK I J4 := fr3.trans ⟨fun i p q => c3 i (by omega), fun j _ => by rw [c3 63 (by decide)]⟩
  refine V_aload_n 228 0 dX8_tellFare_228 rfl ?_
  refine V_getR 229 flX8_106 dX8_tellFare_229 rfl ?_
  refine V_iload_n 232 1 dX8_tellFare_232 rfl ?_
  refine V_cst 233 1 dX8_tellFare_233 rfl ?_
  refine V_zast 234 dX8_tellFare_234 rfl (by omega) (by omega) (by first | exact Or.inl rfl | exact Or.inr rfl | assumption) ?_
  refine V_ret 235 dX8_tellFare_235 rfl ⟨rfl, rfl, ⟨(fr4.put (Or.inl (by decide))).mp hK.1, ?_, ?_, fun j hj => ?_⟩, ?_, ?_, ?_, fun q hq => ?_, fun k => ?_, fr4.put (Or.inl (by decide))⟩
  · rw [w_put_ne _ 63 (by decide), c3 63 (by decide)]; exact hKJ3.2.1
  · rw [w_put_ne _ 63 (by decide), c3 63 (by decide)]; exact hKJ3.2.2.1
  · rw [w_put_ne _ 87 (by decide), c3 87 (by decide)]; exact hKJ3.2.2.2 j hj
  · exact a6.of (by rw [w_put_ne _ 63 (by decide), c3 63 (by decide), b3 63 (by decide)]) (by rw [w_put_ne _ 97 (by decide), c3 97 (by decide), b3 97 (by decide)])
  · rw [w_put_ne _ 63 (by decide), c3 63 (by decide), b3 63 (by decide), a3]; omega
  · unfold FO
    rw [w_put_ne _ 93 (by decide)]
    exact c1
  · rw [w_put_ne _ 93 (by decide), c2 q hq, b2 q hq, e96]
  · rw [w_put_eq, c3 94 (by decide), b3 94 (by decide), e97]
    by_cases e : k = K
    · rw [if_pos ⟨rfl, e⟩, if_pos e]
    · rw [if_neg (fun w => e w.2), if_neg e]
end
