/-! promises -/
theorem n_ex (x : Int32) : ∃ y, x = nI y := ⟨x.toBitVec.toNat, by apply Int32.toBitVec_inj.mp; show x.toBitVec = BitVec.ofNat 32 x.toBitVec.toNat; rw [BitVec.ofNat_toNat, BitVec.setWidth_eq]⟩
def b_cnt (b n : Nat) : Nat := ((List.range n).filter (fun i => b.testBit i)).length
theorem b_cnt_succ (b n : Nat) : b_cnt b (n + 1) = b_cnt b n + if b.testBit n then 1 else 0 := by
  unfold b_cnt
  rw [List.range_succ, List.filter_append, List.length_append]
  congr 1
  cases h : b.testBit n <;> simp [h]
theorem b_cnt_le (b n : Nat) : b_cnt b n ≤ n := by
  unfold b_cnt
  have := List.length_filter_le (fun i => b.testBit i) (List.range n)
  rw [List.length_range] at this
  exact this
theorem b_cnt_or {b q : Nat} (h : b.testBit q = false) : ∀ n, b_cnt (b ||| 2 ^ q) n = b_cnt b n + if q < n then 1 else 0 := by
  intro n
  induction n with
  | zero => rfl
  | succ n ih =>
    rw [b_cnt_succ, b_cnt_succ, ih, Nat.testBit_or, tb_p]
    by_cases e : q = n
    · subst e
      rw [h]
      simp
    · have e2 : decide (q = n) = false := decide_eq_false e
      rw [e2, Bool.or_false]
      by_cases e3 : q < n
      · have e4 : (if q < n then 1 else 0) = 1 := if_pos e3
        have e5 : (if q < n + 1 then 1 else 0) = 1 := if_pos (by omega)
        rw [e4, e5]; omega
      · have e4 : (if q < n then 1 else 0) = 0 := if_neg e3
        have e5 : (if q < n + 1 then 1 else 0) = 0 := if_neg (by omega)
        rw [e4, e5]; omega
theorem x_l1_new {T : Nat → Nat} {n np b e : Nat} {q : Nat × Nat} (h : x_l1 T n np b e = .ok q) : b.testBit q.1 = false := by
  have h1 := h
  unfold x_l1 at h
  split at h
  · cases h
  · rename_i c
    obtain ⟨-, h3, h4, h5⟩ := x_num_ok h
    cases hb : b.testBit q.1
    · rfl
    · exfalso
      have hq : q.1 = x_va T n e := by
        unfold x_num at h
        split at h
        · cases h
        · split at h
          · cases h
          · split at h
            · cases h
            · cases h; rfl
      exact c ⟨h5, by rw [← hq]; exact h3, by rw [← hq]; exact hb⟩
theorem MPX.prom {P : w_R} {I : w_I} {a b c h ln : Nat} (hM : MPX P I) (h2 : I 69 (12 + P 6 0) = a) (h3 : I 70 (12 + P 6 0) = b) (h4 : I 71 (12 + P 6 0) = c) (h5 : I 72 (12 + P 6 0) = h) (h6 : I 73 (12 + P 6 0) = ln) : MPX (s_addP P a b c h ln) (w_put I 64 5 (P 6 0 + 1)) := by
  obtain ⟨g0, g1, g2, g3, g4, g5⟩ := hM
  unfold s_addP
  refine ⟨?_, ?_, ?_, fun q hq => ?_, fun q hq => ?_, fun q hq => ?_⟩
  · simp [w_put_eq, g0]
  · simp [w_put_eq, g1]
  · simp [w_put_eq]
  · simp [w_put_eq, g3 q hq]
  · simp [w_put_eq] at hq
    simp [w_put_eq]
    exact g4 q hq
  · simp [w_put_eq] at hq
    simp [w_put_eq]
    by_cases e : q = P 6 0
    · simp [e, h2, h3, h4, h5, h6]
    · simp [e]
      exact g5 q (by omega)
section
variable {Ω : w_O} {d u v : Nat} {L : w_L} {E : w_E} {T : Nat → Nat} {n : Nat} {P : w_R}
theorem rp_l (hE : w_fit (d + 2) E) (h256 : ∀ j, T j < 256) (h12 : P 6 0 < 12) : ∀ (k b e : Nat) (J : w_I), b_cnt b 12 + k = 13 → b < 2 ^ P 6 0 → MPX P J → GD T n e J → MTX T n J → J 73 (12 + P 6 0) = b →
    (∀ J' x, ((∃ q, x_ls T n (P 6 0) k b e = .error q ∧ BD q J') ∨ ∃ q, x_ls T n (P 6 0) k b e = .ok q ∧ GD T n q.2 J' ∧ MPX P J' ∧ J' 73 (12 + P 6 0) = q.1) → FrU J J' → (∀ i, i ≠ 63 → i ≠ 73 → J' i = J i) → V mX8_readPromise E Ω 0 0 (SH u v) J' L 204 [(0, .ref (Ω.1 + 63)), (1, .int (nI (12 + P 6 0))), (2, .int (nI x))] []) →
    V mX8_readPromise E Ω 0 0 (SH u v) J L 149 [(0, .ref (Ω.1 + 63)), (1, .int (nI (12 + P 6 0))), (2, .int (nI 1))] [] := by
  intro k
  induction k with
  | zero =>
    intro b e J hc hb hM hG hT h76 hk
    have := b_cnt_le b 12
    omega
  | succ k ih =>
    intro b e J hc hb hM hG hT h76 hk
    have hb4 : b < 4096 := Nat.lt_trans hb (p12 h12)
    refine V_iload_n 149 2 dX8_readPromise_149 rfl ?_
    refine V_zN_eq 150 204 dX8_readPromise_150 (by decide) (by omega) (fun c => ?_) (fun c => ?_)
    · exact absurd c (by decide)
    refine V_aload_n 153 0 dX8_readPromise_153 rfl ?_
    refine V_getI 154 flX8_173 dX8_readPromise_154 rfl ?_
    rw [hG.1]
    refine V_zN_ne 157 204 dX8_readPromise_157 (by decide) (by omega) (fun c1 => ?_) (fun c1 => ?_)
    · exact absurd rfl c1
    refine V_aload_n 160 0 dX8_readPromise_160 rfl ?_
    refine V_getR 161 flX8_37 dX8_readPromise_161 rfl ?_
    refine V_iload_n 164 1 dX8_readPromise_164 rfl ?_
    refine V_dup2 165 dX8_readPromise_165 rfl rfl ?_
    refine V_iald 166 dX8_readPromise_166 rfl (by omega) (by omega) ?_
    rw [h76]
    refine V_cst 167 1 dX8_readPromise_167 rfl ?_
    refine V_aload_n 168 0 dX8_readPromise_168 rfl ?_
    refine V_aload_n 169 0 dX8_readPromise_169 rfl ?_
    refine V_getR 170 flX8_7 dX8_readPromise_170 rfl ?_
    refine V_cst 173 5 dX8_readPromise_173 rfl ?_
    refine V_iald 174 dX8_readPromise_174 rfl (by omega) (by omega) ?_
    rw [hM.2.2.1]
    refine V_aload_n 175 0 dX8_readPromise_175 rfl ?_
    refine V_getR 176 flX8_37 dX8_readPromise_176 rfl ?_
    refine V_iload_n 179 1 dX8_readPromise_179 rfl ?_
    refine V_iald 180 dX8_readPromise_180 rfl (by omega) (by omega) ?_
    rw [h76]
    refine V_vi 181 mvX8_199 dX8_readPromise_181 ⟨_, _, _, rfl, rfl, rfl⟩ (w_fit.mono (by omega) hE) (m_readOne1 (d := d) (b := b) h256 (by omega) hb4 hG hT) rfl (Nat.le_of_ble_eq_true rfl) ?_
    rintro _ _ J1 _ ⟨rfl, rfl, g1, g2⟩
    have hM1 := hM.x g1
    have hT1 := hT.frx g1
    have h761 : J1 73 (12 + P 6 0) = b := by rw [g1.1 73 (by decide)]; exact h76
    rcases g2 with ⟨⟨a, ea⟩, y1, rfl, hG1⟩ | ⟨q, y1, hB, y, rfl⟩
    · have hG1 : GD T n ea J1 := hG1
      have ha : a < P 6 0 := (x_l1_ok y1).1
      have hnew : b.testBit a = false := x_l1_new y1
      refine V_shl 184 dX8_readPromise_184 (by omega) ?_
      rw [Nat.one_mul]
      refine V_or 185 dX8_readPromise_185 ?_
      refine V_iast 186 dX8_readPromise_186 rfl (by omega) (by omega) ?_
      have hb' : b ||| 2 ^ a < 2 ^ P 6 0 := Nat.or_lt_two_pow hb (p_lt ha)
      have hM2 : MPX P (w_put J1 73 (12 + P 6 0) (b ||| 2 ^ a)) := hM1.put (Or.inr ⟨by decide, by decide, rfl⟩)
      have hG2 : GD T n ea (w_put J1 73 (12 + P 6 0) (b ||| 2 ^ a)) := hG1.u (by decide)
      have hT2 : MTX T n (w_put J1 73 (12 + P 6 0) (b ||| 2 ^ a)) := hT1.u (by decide) (by decide)
      have hF2 : FrU J (w_put J1 73 (12 + P 6 0) (b ||| 2 ^ a)) := g1.u.put (Or.inr (Or.inr ⟨by decide, by decide, by omega⟩))
      have hO2 : ∀ i, i ≠ 63 → i ≠ 73 → w_put J1 73 (12 + P 6 0) (b ||| 2 ^ a) i = J i := fun i p q => by rw [w_put_ne _ _ q, g1.1 i p]
      have h762 : w_put J1 73 (12 + P 6 0) (b ||| 2 ^ a) 73 (12 + P 6 0) = b ||| 2 ^ a := w_put_same _ _ _ _
      generalize w_put J1 73 (12 + P 6 0) (b ||| 2 ^ a) = J2 at hM2 hG2 hT2 hF2 hO2 h762 ⊢
      have hkd := x_kd_lt (T := T) (n := n) ea
      rw [x_ls_ok y1] at hk
      refine V_aload_n 187 0 dX8_readPromise_187 rfl ?_
      refine V_getI 188 flX8_151 dX8_readPromise_188 rfl ?_
      refine V_cst 191 2 dX8_readPromise_191 rfl ?_
      rw [hG2.2.1.1]
      refine V_cN_ne 192 199 dX8_readPromise_192 (by decide) (by omega) (by omega) (fun c2 => ?_) (fun c2 => ?_)
      · rw [if_neg c2] at hk
        refine V_cst 199 0 dX8_readPromise_199 rfl ?_
        refine V_istore_n 200 [(0, _), (1, _), (2, _)] dX8_readPromise_200 (by decide) rfl ?_
        refine V_goto 201 149 dX8_readPromise_201 (by decide) ?_
        refine V_iload_n 149 2 dX8_readPromise_149 rfl ?_
        refine V_zN_eq 150 204 dX8_readPromise_150 (by decide) (by omega) (fun c3 => ?_) (fun c3 => ?_)
        rotate_left
        · exact absurd rfl c3
        exact hk J2 0 (Or.inr ⟨_, rfl, hG2, hM2, h762⟩) hF2 hO2
      · rw [if_pos c2] at hk
        refine V_cst 195 1 dX8_readPromise_195 rfl ?_
        refine V_goto 196 200 dX8_readPromise_196 (by decide) ?_
        refine V_istore_n 200 [(0, _), (1, _), (2, _)] dX8_readPromise_200 (by decide) rfl ?_
        refine V_goto 201 149 dX8_readPromise_201 (by decide) ?_
        refine ih (b ||| 2 ^ a) ea J2 ?_ hb' hM2 hG2 hT2 h762 (fun J' x h1 h2 h3 => hk J' x h1 (hF2.trans h2) (fun i p q => (h3 i p q).trans (hO2 i p q)))
        rw [b_cnt_or hnew, if_pos (by omega)]
        omega
    · refine V_ishl 184 dX8_readPromise_184 ?_
      refine V_ior 185 dX8_readPromise_185 ?_
      obtain ⟨w, hw⟩ := n_ex (nI b ||| nI 1 <<< (nI y &&& 31))
      rw [hw]
      refine V_iast 186 dX8_readPromise_186 rfl (by omega) (by omega) ?_
      have hB2 : BD q (w_put J1 73 (12 + P 6 0) w) := hB.u (by decide)
      have hF2 : FrU J (w_put J1 73 (12 + P 6 0) w) := g1.u.put (Or.inr (Or.inr ⟨by decide, by decide, by omega⟩))
      have hO2 : ∀ i, i ≠ 63 → i ≠ 73 → w_put J1 73 (12 + P 6 0) w i = J i := fun i p q => by rw [w_put_ne _ _ q, g1.1 i p]
      generalize w_put J1 73 (12 + P 6 0) w = J2 at hB2 hF2 hO2 ⊢
      obtain ⟨b1, b2, b3, b4, b5⟩ := hB2
      have fin : ∀ x, V mX8_readPromise E Ω 0 0 (SH u v) J2 L 204 [(0, .ref (Ω.1 + 63)), (1, .int (nI (12 + P 6 0))), (2, .int (nI x))] [] := fun x => hk J2 x (Or.inl ⟨q, x_ls_err y1, b1, b2, b3, b4, b5⟩) hF2 hO2
      refine V_aload_n 187 0 dX8_readPromise_187 rfl ?_
      refine V_getI 188 flX8_151 dX8_readPromise_188 rfl ?_
      refine V_cst 191 2 dX8_readPromise_191 rfl ?_
      refine V_cN_ne 192 199 dX8_readPromise_192 (by decide) (by omega) (by omega) (fun c2 => ?_) (fun c2 => ?_)
      · refine V_cst 199 0 dX8_readPromise_199 rfl ?_
        refine V_istore_n 200 [(0, _), (1, _), (2, _)] dX8_readPromise_200 (by decide) rfl ?_
        refine V_goto 201 149 dX8_readPromise_201 (by decide) ?_
        refine V_iload_n 149 2 dX8_readPromise_149 rfl ?_
        refine V_zN_eq 150 204 dX8_readPromise_150 (by decide) (by omega) (fun c3 => ?_) (fun c3 => ?_)
        rotate_left
        · exact absurd rfl c3
        exact fin 0
      · refine V_cst 195 1 dX8_readPromise_195 rfl ?_
        refine V_goto 196 200 dX8_readPromise_196 (by decide) ?_
        refine V_istore_n 200 [(0, _), (1, _), (2, _)] dX8_readPromise_200 (by decide) rfl ?_
        refine V_goto 201 149 dX8_readPromise_201 (by decide) ?_
        refine V_iload_n 149 2 dX8_readPromise_149 rfl ?_
        refine V_zN_eq 150 204 dX8_readPromise_150 (by decide) (by omega) (fun c3 => ?_) (fun c3 => ?_)
        · exact absurd c3 (by decide)
        refine V_aload_n 153 0 dX8_readPromise_153 rfl ?_
        refine V_getI 154 flX8_173 dX8_readPromise_154 rfl ?_
        rw [b1]
        refine V_zN_ne 157 204 dX8_readPromise_157 (by decide) (by omega) (fun c4 => ?_) (fun c4 => ?_)
        rotate_left
        · omega
        exact fin 1
end
