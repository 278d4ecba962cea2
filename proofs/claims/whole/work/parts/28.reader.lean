/-! TEXTS: a text's bytes T (each below 256), its first n of them; tokens -/
def x_S (b : Nat) : Bool := b == 32 || b == 10
def x_L (b : Nat) : Bool := decide (97 ≤ b) && decide (b ≤ 122)
def x_D (b : Nat) : Bool := decide (48 ≤ b) && decide (b ≤ 57)
/-- the first place from i on, of at most k, where f fails -/
def x_run (f : Nat → Bool) (T : Nat → Nat) : Nat → Nat → Nat
  | 0, i => i
  | k + 1, i => if f (T i) then x_run f T k (i + 1) else i
theorem x_run_ge (f : Nat → Bool) (T : Nat → Nat) : ∀ k i, i ≤ x_run f T k i ∧ x_run f T k i ≤ i + k := by
  intro k
  induction k with
  | zero => intro i; exact ⟨Nat.le_refl _, Nat.le_refl _⟩
  | succ k ih =>
    intro i
    unfold x_run
    have := ih (i + 1)
    split <;> omega
/-- the token from e on: start, kind, end, value -/
def x_st (T : Nat → Nat) (n e : Nat) : Nat := x_run x_S T (n - e) e
def x_le (T : Nat → Nat) (n e : Nat) : Nat := x_run x_L T (n - x_st T n e) (x_st T n e)
def x_de (T : Nat → Nat) (n e : Nat) : Nat := x_run x_D T (n - x_st T n e) (x_st T n e)
def x_dec (T : Nat → Nat) (s : Nat) : Nat → Nat
  | 0 => 0
  | k + 1 => x_dec T s k * 10 + (T (s + k) - 48)
def x_kd (T : Nat → Nat) (n e : Nat) : Nat := if x_st T n e < x_le T n e then 1 else if x_st T n e < x_de T n e then 2 else if x_st T n e < n then (if T (x_st T n e) = 59 then 3 else 4) else 0
def x_en (T : Nat → Nat) (n e : Nat) : Nat := if x_st T n e < x_le T n e then x_le T n e else if x_st T n e < x_de T n e then x_de T n e else if x_st T n e < n then x_st T n e + 1 else x_st T n e
def x_vl (T : Nat → Nat) (s i : Nat) : Nat := if i - s ≤ 3 then x_dec T s (i - s) else mI
def x_va (T : Nat → Nat) (n e : Nat) : Nat := if x_st T n e < x_le T n e then 0 else x_vl T (x_st T n e) (x_de T n e)
/-- the tape's first n bytes are T's -/
def TX (T : Nat → Nat) (n : Nat) (I : w_I) : Prop := n ≤ 700 ∧ ∀ j, j < n → T j < 256 ∧ I 1 j = w_b8 (T j)
theorem b8_lt (x : Nat) : w_b8 x < 4294967296 := by unfold w_b8; split <;> omega
theorem b8_sgn {x : Nat} (hx : x < 256) : sgn (w_b8 x) = if x < 128 then (x : Int) else (x : Int) - 256 := by
  unfold w_b8 sgn
  rw [Nat.mod_eq_of_lt hx]
  by_cases h : x < 128
  · simp only [h, if_true]
    rw [if_pos (by omega)]
  · simp only [h, if_false]
    rw [if_neg (by omega)]
    omega
theorem b8_eq {x y : Nat} (hx : x < 256) (hy : y < 128) : w_b8 x = y ↔ x = y := by
  unfold w_b8
  rw [Nat.mod_eq_of_lt hx]
  split <;> omega
theorem sgn_s {x : Nat} (hx : x < 2147483648) : sgn x = (x : Int) := by unfold sgn; rw [if_pos hx]
/-- only the reader's token has changed -/
def FrT (I I' : w_I) : Prop := (∀ i, i ≠ 2 → I' i = I i) ∧ ∀ j, j < 3 ∨ 6 < j → I' 2 j = I 2 j
theorem FrT.rf {I : w_I} : FrT I I := ⟨fun _ _ => rfl, fun _ _ => rfl⟩
theorem FrT.trans {I I' I'' : w_I} (h : FrT I I') (h' : FrT I' I'') : FrT I I'' := ⟨fun i hi => (h'.1 i hi).trans (h.1 i hi), fun j hj => (h'.2 j hj).trans (h.2 j hj)⟩
theorem FrT.put {I I' : w_I} {j x : Nat} (h : FrT I I') (h1 : 3 ≤ j) (h2 : j ≤ 6) : FrT I (w_put I' 2 j x) := ⟨fun i hi => (w_put_ne I' i hi).trans (h.1 i hi), fun q hq => by rw [w_put_other _ (Or.inr (by omega))]; exact h.2 q hq⟩
theorem TX.fr {T : Nat → Nat} {n : Nat} {I I' : w_I} (h : TX T n I) (hf : I' 1 = I 1) : TX T n I' := by
  unfold TX; rw [hf]; exact h
section
variable {Ω : w_O} {d u v : Nat} {L : w_L} {E : w_E} {T : Nat → Nat} {n : Nat}
theorem ad_sp : ∀ (k i : Nat) (I : w_I), i + k = n → I 2 2 = n → I 2 4 = i → TX T n I → (∀ I', FrT I I' → I' 2 4 = x_run x_S T k i → V mX4_advance E Ω 0 0 (SH u v) I' L 60 [(0, .ref (Ω.1 + 2))] []) → V mX4_advance E Ω 0 0 (SH u v) I L 8 [(0, .ref (Ω.1 + 2))] [] := by
  intro k
  induction k with
  | zero =>
    intro i I hi h2 h4 hT hk
    have hn := hT.1
    refine V_aload_n 8 0 dX4_advance_8 rfl ?_
    refine V_getI 9 flX4_126 dX4_advance_9 rfl ?_
    refine V_aload_n 12 0 dX4_advance_12 rfl ?_
    refine V_getI 13 flX4_22 dX4_advance_13 rfl ?_
    rw [h2, h4]
    refine V_cN_ge 16 60 dX4_advance_16 (by decide) (by omega) (by omega) (fun c => ?_) (fun c => ?_)
    · exact hk I FrT.rf h4
    · omega
  | succ k ih =>
    intro i I hi h2 h4 hT hk
    have hn := hT.1
    obtain ⟨t1, t2⟩ := hT.2 i (by omega)
    have hb := b8_lt (T i)
    refine V_aload_n 8 0 dX4_advance_8 rfl ?_
    refine V_getI 9 flX4_126 dX4_advance_9 rfl ?_
    refine V_aload_n 12 0 dX4_advance_12 rfl ?_
    refine V_getI 13 flX4_22 dX4_advance_13 rfl ?_
    rw [h2, h4]
    have k47 : x_S (T i) = true → V mX4_advance E Ω 0 0 (SH u v) I L 47 [(0, .ref (Ω.1 + 2))] [] := by
      intro hs
      refine V_aload_n 47 0 dX4_advance_47 rfl ?_
      refine V_dup 48 dX4_advance_48 rfl ?_
      refine V_getI 49 flX4_126 dX4_advance_49 rfl ?_
      refine V_cst 52 1 dX4_advance_52 rfl ?_
      refine V_add 53 dX4_advance_53 ?_
      refine V_putI 54 flX4_126 ft_4_4 dX4_advance_54 rfl ?_
      refine V_goto 57 8 dX4_advance_57 (by decide) ?_
      refine ih (i + 1) _ (by omega) ((w_put_other _ (Or.inr (by decide))).trans h2) (by rw [w_put_same, h4]) (hT.fr (w_put_ne _ _ (by decide))) (fun I' g1 g2 => hk I' ((FrT.rf.put (by decide) (by decide)).trans g1) ?_)
      rw [g2]
      conv => rhs; unfold x_run
      rw [if_pos hs]
    refine V_cN_ge 16 60 dX4_advance_16 (by decide) (by omega) (by omega) (fun c => ?_) (fun c => ?_)
    · omega
    refine V_aload_n 19 0 dX4_advance_19 rfl ?_
    refine V_getR 20 flX4_18 dX4_advance_20 rfl ?_
    refine V_aload_n 23 0 dX4_advance_23 rfl ?_
    refine V_getI 24 flX4_126 dX4_advance_24 rfl ?_
    rw [h4]
    refine V_bald 27 dX4_advance_27 rfl (by omega) (by omega) ?_
    refine V_bip 28 32 dX4_advance_28 rfl ?_
    rw [t2]
    refine V_cN_eq 30 47 dX4_advance_30 (by decide) (by omega) (by omega) (fun c1 => ?_) (fun c1 => ?_)
    · exact k47 (by unfold x_S; rw [(b8_eq t1 (by decide)).mp c1]; rfl)
    refine V_aload_n 33 0 dX4_advance_33 rfl ?_
    refine V_getR 34 flX4_18 dX4_advance_34 rfl ?_
    refine V_aload_n 37 0 dX4_advance_37 rfl ?_
    refine V_getI 38 flX4_126 dX4_advance_38 rfl ?_
    rw [h4]
    refine V_bald 41 dX4_advance_41 rfl (by omega) (by omega) ?_
    refine V_bip 42 10 dX4_advance_42 rfl ?_
    rw [t2]
    refine V_cN_ne 44 60 dX4_advance_44 (by decide) (by omega) (by omega) (fun c2 => ?_) (fun c2 => ?_)
    · refine hk I FrT.rf ?_
      rw [h4]
      unfold x_run
      rw [if_neg]
      unfold x_S
      intro h
      simp only [Bool.or_eq_true, beq_iff_eq] at h
      rcases h with h | h
      · exact c1 ((b8_eq t1 (by decide)).mpr h)
      · exact c2 ((b8_eq t1 (by decide)).mpr h)
    · exact k47 (by unfold x_S; rw [(b8_eq t1 (by decide)).mp c2]; rfl)
theorem ad_le {s : Nat} : ∀ (k i : Nat) (I : w_I), i + k = n → I 2 2 = n → I 2 4 = s → I 2 5 = i → I 2 6 = 0 → TX T n I → (∀ I', FrT I I' → I' 2 4 = s → I' 2 5 = x_run x_L T k i → I' 2 6 = 0 → V mX4_advance E Ω 0 0 (SH u v) I' L 125 [(0, .ref (Ω.1 + 2))] []) → V mX4_advance E Ω 0 0 (SH u v) I L 73 [(0, .ref (Ω.1 + 2))] [] := by
  intro k
  induction k with
  | zero =>
    intro i I hi h2 h4 h5 h6 hT hk
    have hn := hT.1
    refine V_aload_n 73 0 dX4_advance_73 rfl ?_
    refine V_getI 74 flX4_32 dX4_advance_74 rfl ?_
    refine V_aload_n 77 0 dX4_advance_77 rfl ?_
    refine V_getI 78 flX4_22 dX4_advance_78 rfl ?_
    rw [h2, h5]
    refine V_cN_ge 81 125 dX4_advance_81 (by decide) (by omega) (by omega) (fun c => ?_) (fun c => ?_)
    · exact hk I FrT.rf h4 h5 h6
    · omega
  | succ k ih =>
    intro i I hi h2 h4 h5 h6 hT hk
    have hn := hT.1
    obtain ⟨t1, t2⟩ := hT.2 i (by omega)
    have hb := b8_lt (T i)
    have hs := b8_sgn t1
    have no : x_L (T i) = false → V mX4_advance E Ω 0 0 (SH u v) I L 125 [(0, .ref (Ω.1 + 2))] [] := by
      intro h
      refine hk I FrT.rf h4 ?_ h6
      rw [h5]
      unfold x_run
      rw [h]
      rfl
    refine V_aload_n 73 0 dX4_advance_73 rfl ?_
    refine V_getI 74 flX4_32 dX4_advance_74 rfl ?_
    refine V_aload_n 77 0 dX4_advance_77 rfl ?_
    refine V_getI 78 flX4_22 dX4_advance_78 rfl ?_
    rw [h2, h5]
    refine V_cN_ge 81 125 dX4_advance_81 (by decide) (by omega) (by omega) (fun c => ?_) (fun c => ?_)
    · omega
    refine V_aload_n 84 0 dX4_advance_84 rfl ?_
    refine V_getR 85 flX4_18 dX4_advance_85 rfl ?_
    refine V_aload_n 88 0 dX4_advance_88 rfl ?_
    refine V_getI 89 flX4_32 dX4_advance_89 rfl ?_
    rw [h5]
    refine V_bald 92 dX4_advance_92 rfl (by omega) (by omega) ?_
    refine V_bip 93 97 dX4_advance_93 rfl ?_
    rw [t2]
    refine V_cG_lt 95 125 dX4_advance_95 (by decide) (by omega) (by omega) (fun c1 => ?_) (fun c1 => ?_)
    · rw [hs, sgn_s (by decide)] at c1
      refine no ?_
      unfold x_L
      simp only [Bool.and_eq_false_iff, decide_eq_false_iff_not]
      split at c1 <;> omega
    rw [hs, sgn_s (by decide)] at c1
    refine V_aload_n 98 0 dX4_advance_98 rfl ?_
    refine V_getR 99 flX4_18 dX4_advance_99 rfl ?_
    refine V_aload_n 102 0 dX4_advance_102 rfl ?_
    refine V_getI 103 flX4_32 dX4_advance_103 rfl ?_
    rw [h5]
    refine V_bald 106 dX4_advance_106 rfl (by omega) (by omega) ?_
    refine V_bip 107 122 dX4_advance_107 rfl ?_
    rw [t2]
    refine V_cG_gt 109 125 dX4_advance_109 (by decide) (by omega) (by omega) (fun c2 => ?_) (fun c2 => ?_)
    · rw [hs, sgn_s (by decide)] at c2
      refine no ?_
      unfold x_L
      simp only [Bool.and_eq_false_iff, decide_eq_false_iff_not]
      split at c2 <;> omega
    rw [hs, sgn_s (by decide)] at c2
    have hL : x_L (T i) = true := by
      unfold x_L
      simp only [Bool.and_eq_true, decide_eq_true_eq]
      split at c1 <;> split at c2 <;> omega
    refine V_aload_n 112 0 dX4_advance_112 rfl ?_
    refine V_dup 113 dX4_advance_113 rfl ?_
    refine V_getI 114 flX4_32 dX4_advance_114 rfl ?_
    refine V_cst 117 1 dX4_advance_117 rfl ?_
    refine V_add 118 dX4_advance_118 ?_
    refine V_putI 119 flX4_32 ft_4_5 dX4_advance_119 rfl ?_
    refine V_goto 122 73 dX4_advance_122 (by decide) ?_
    refine ih (i + 1) _ (by omega) ((w_put_other _ (Or.inr (by decide))).trans h2) ((w_put_other _ (Or.inr (by decide))).trans h4) (by rw [w_put_same, h5]) ((w_put_other _ (Or.inr (by decide))).trans h6) (hT.fr (w_put_ne _ _ (by decide))) (fun I' g1 g2 g3 g4 => hk I' ((FrT.rf.put (by decide) (by decide)).trans g1) g2 ?_ g4)
    rw [g3]
    conv => rhs; unfold x_run
    rw [if_pos hL]
theorem x_dec_lt (hd : ∀ j, T j < 256) (s : Nat) : ∀ k, k ≤ 3 → x_dec T s k < 1000000 := by
  intro k hk
  have h0 := hd s
  have h1 := hd (s + 1)
  have h2 := hd (s + 2)
  rcases (show k = 0 ∨ k = 1 ∨ k = 2 ∨ k = 3 by omega) with rfl | rfl | rfl | rfl <;> simp only [x_dec, Nat.add_zero] <;> omega
theorem ad_de {s : Nat} : ∀ (k i : Nat) (I : w_I), i + k = n → s ≤ i → (∀ j, s ≤ j → j < i → 48 ≤ T j ∧ T j ≤ 57) → I 2 2 = n → I 2 4 = s → I 2 5 = i → I 2 6 = x_vl T s i → TX T n I → (∀ I', FrT I I' → I' 2 4 = s → I' 2 5 = x_run x_D T k i → I' 2 6 = x_vl T s (x_run x_D T k i) → V mX4_advance E Ω 0 0 (SH u v) I' L 245 [(0, .ref (Ω.1 + 2))] []) → V mX4_advance E Ω 0 0 (SH u v) I L 142 [(0, .ref (Ω.1 + 2))] [] := by
  intro k
  induction k with
  | zero =>
    intro i I hi hsi hdg h2 h4 h5 h6 hT hk
    have hn := hT.1
    refine V_aload_n 142 0 dX4_advance_142 rfl ?_
    refine V_getI 143 flX4_32 dX4_advance_143 rfl ?_
    refine V_aload_n 146 0 dX4_advance_146 rfl ?_
    refine V_getI 147 flX4_22 dX4_advance_147 rfl ?_
    rw [h2, h5]
    refine V_cN_ge 150 245 dX4_advance_150 (by decide) (by omega) (by omega) (fun c => ?_) (fun c => ?_)
    · exact hk I FrT.rf h4 h5 h6
    · omega
  | succ k ih =>
    intro i I hi hsi hdg h2 h4 h5 h6 hT hk
    have hn := hT.1
    obtain ⟨t1, t2⟩ := hT.2 i (by omega)
    have hb := b8_lt (T i)
    have hs := b8_sgn t1
    have no : x_D (T i) = false → V mX4_advance E Ω 0 0 (SH u v) I L 245 [(0, .ref (Ω.1 + 2))] [] := by
      intro h
      have e : x_run x_D T (k + 1) i = i := by unfold x_run; rw [h]; rfl
      exact hk I FrT.rf h4 (by rw [h5, e]) (by rw [h6, e])
    refine V_aload_n 142 0 dX4_advance_142 rfl ?_
    refine V_getI 143 flX4_32 dX4_advance_143 rfl ?_
    refine V_aload_n 146 0 dX4_advance_146 rfl ?_
    refine V_getI 147 flX4_22 dX4_advance_147 rfl ?_
    rw [h2, h5]
    refine V_cN_ge 150 245 dX4_advance_150 (by decide) (by omega) (by omega) (fun c => ?_) (fun c => ?_)
    · omega
    refine V_aload_n 153 0 dX4_advance_153 rfl ?_
    refine V_getR 154 flX4_18 dX4_advance_154 rfl ?_
    refine V_aload_n 157 0 dX4_advance_157 rfl ?_
    refine V_getI 158 flX4_32 dX4_advance_158 rfl ?_
    rw [h5]
    refine V_bald 161 dX4_advance_161 rfl (by omega) (by omega) ?_
    refine V_bip 162 48 dX4_advance_162 rfl ?_
    rw [t2]
    refine V_cG_lt 164 245 dX4_advance_164 (by decide) (by omega) (by omega) (fun c1 => ?_) (fun c1 => ?_)
    · rw [hs, sgn_s (by decide)] at c1
      refine no ?_
      unfold x_D
      simp only [Bool.and_eq_false_iff, decide_eq_false_iff_not]
      split at c1 <;> omega
    rw [hs, sgn_s (by decide)] at c1
    refine V_aload_n 167 0 dX4_advance_167 rfl ?_
    refine V_getR 168 flX4_18 dX4_advance_168 rfl ?_
    refine V_aload_n 171 0 dX4_advance_171 rfl ?_
    refine V_getI 172 flX4_32 dX4_advance_172 rfl ?_
    rw [h5]
    refine V_bald 175 dX4_advance_175 rfl (by omega) (by omega) ?_
    refine V_bip 176 57 dX4_advance_176 rfl ?_
    rw [t2]
    refine V_cG_gt 178 245 dX4_advance_178 (by decide) (by omega) (by omega) (fun c2 => ?_) (fun c2 => ?_)
    · rw [hs, sgn_s (by decide)] at c2
      refine no ?_
      unfold x_D
      simp only [Bool.and_eq_false_iff, decide_eq_false_iff_not]
      split at c2 <;> omega
    rw [hs, sgn_s (by decide)] at c2
    have hr : 48 ≤ T i ∧ T i ≤ 57 := by split at c1 <;> split at c2 <;> omega
    have hL : x_D (T i) = true := by
      unfold x_D
      simp only [Bool.and_eq_true, decide_eq_true_eq]
      exact hr
    have hb8 : w_b8 (T i) = T i := (b8_eq (y := T i) t1 (by omega)).mpr rfl
    have k229 : ∀ w, w = x_vl T s (i + 1) → ∀ q, V mX4_advance E Ω 0 0 (SH u v) I L 229 [(0, .ref (Ω.1 + 2)), (1, .int q)] [.int (nI w), .ref (Ω.1 + 2)] := by
      intro w hw q
      refine V_putI 229 flX4_117 ft_4_6 dX4_advance_229 rfl ?_
      refine V_aload_n 232 0 dX4_advance_232 rfl ?_
      refine V_dup 233 dX4_advance_233 rfl ?_
      refine V_getI 234 flX4_32 dX4_advance_234 rfl ?_
      refine V_cst 237 1 dX4_advance_237 rfl ?_
      refine V_add 238 dX4_advance_238 ?_
      refine V_putI 239 flX4_32 ft_4_5 dX4_advance_239 rfl ?_
      refine V_goto 242 142 dX4_advance_242 (by decide) ?_
      refine V_sub [(0, _)] [0] rfl ?_
      rw [w_put_other _ (Or.inr (by decide)), h5]
      refine ih (i + 1) _ (by omega) (by omega) (fun j a b => ?_) ?_ ?_ (w_put_same _ _ _ _) ?_ (hT.fr ?_) (fun I' g1 g2 g3 g4 => hk I' (((FrT.rf.put (by decide) (by decide)).put (by decide) (by decide)).trans g1) g2 ?_ ?_)
      · by_cases e : j = i
        · rw [e]; exact hr
        · exact hdg j a (by omega)
      · rw [w_put_other _ (Or.inr (by decide)), w_put_other _ (Or.inr (by decide))]; exact h2
      · rw [w_put_other _ (Or.inr (by decide)), w_put_other _ (Or.inr (by decide))]; exact h4
      · rw [w_put_other _ (Or.inr (by decide)), w_put_same]; exact hw
      · rw [w_put_ne _ _ (by decide), w_put_ne _ _ (by decide)]
      · rw [g3]
        conv => rhs; unfold x_run
        rw [if_pos hL]
      · rw [g4]
        conv => rhs; unfold x_run
        rw [if_pos hL]
    refine V_aload_n 181 0 dX4_advance_181 rfl ?_
    refine V_getI 182 flX4_32 dX4_advance_182 rfl ?_
    refine V_aload_n 185 0 dX4_advance_185 rfl ?_
    refine V_getI 186 flX4_126 dX4_advance_186 rfl ?_
    rw [h4, h5]
    refine V_sub1 189 dX4_advance_189 (by omega) ?_
    refine V_cst 190 3 dX4_advance_190 rfl ?_
    refine V_cN_ge 191 198 dX4_advance_191 (by decide) (by omega) (by omega) (fun c3 => ?_) (fun c3 => ?_)
    · refine V_cst 198 0 dX4_advance_198 rfl ?_
      refine V_istore_n 199 [(0, _), (1, _)] dX4_advance_199 (by decide) rfl ?_
      refine V_aload_n 200 0 dX4_advance_200 rfl ?_
      refine V_iload_n 201 1 dX4_advance_201 rfl ?_
      refine V_zN_eq 202 228 dX4_advance_202 (by decide) (by omega) (fun c4 => ?_) (fun c4 => ?_)
      · refine V_cst 228 4294967295 dX4_advance_228 rfl ?_
        refine k229 _ ?_ _
        unfold x_vl
        rw [if_neg (by omega)]
      · exact absurd rfl c4
    · refine V_cst 194 1 dX4_advance_194 rfl ?_
      refine V_goto 195 199 dX4_advance_195 (by decide) ?_
      refine V_istore_n 199 [(0, _), (1, _)] dX4_advance_199 (by decide) rfl ?_
      refine V_aload_n 200 0 dX4_advance_200 rfl ?_
      refine V_iload_n 201 1 dX4_advance_201 rfl ?_
      refine V_zN_eq 202 228 dX4_advance_202 (by decide) (by omega) (fun c4 => ?_) (fun c4 => ?_)
      · exact absurd c4 (by decide)
      · refine V_aload_n 205 0 dX4_advance_205 rfl ?_
        refine V_getI 206 flX4_117 dX4_advance_206 rfl ?_
        refine V_bip 209 10 dX4_advance_209 rfl ?_
        refine V_mul 211 dX4_advance_211 ?_
        refine V_aload_n 212 0 dX4_advance_212 rfl ?_
        refine V_getR 213 flX4_18 dX4_advance_213 rfl ?_
        refine V_aload_n 216 0 dX4_advance_216 rfl ?_
        refine V_getI 217 flX4_32 dX4_advance_217 rfl ?_
        rw [h5]
        refine V_bald 220 dX4_advance_220 rfl (by omega) (by omega) ?_
        rw [t2, hb8, h6]
        refine V_add 221 dX4_advance_221 ?_
        refine V_bip 222 48 dX4_advance_222 rfl ?_
        refine V_sub1 224 dX4_advance_224 (by omega) ?_
        refine V_goto 225 229 dX4_advance_225 (by decide) ?_
        refine k229 _ ?_ _
        unfold x_vl
        rw [if_pos (by omega), if_pos (by omega), show i + 1 - s = (i - s) + 1 by omega]
        show x_dec T s (i - s) * 10 + T i - 48 = x_dec T s (i - s) * 10 + (T (s + (i - s)) - 48)
        rw [show s + (i - s) = i by omega]
        omega
/-- the reader's token is the one from e on -/
def RT (T : Nat → Nat) (n e : Nat) (I : w_I) : Prop := I 2 2 = n ∧ I 2 3 = x_kd T n e ∧ I 2 4 = x_st T n e ∧ I 2 5 = x_en T n e ∧ I 2 6 = x_va T n e
theorem c_advance {I : w_I} {e : Nat} (h2 : I 2 2 = n) (h5 : I 2 5 = e) (he : e ≤ n) (hT : TX T n I) : FnV Ω d mX4_advance [.ref (Ω.1 + 2)] (SH u v) I L (fun S' I' L' => S' = SH u v ∧ L = L' ∧ RT T n e I' ∧ FrT I I') := by
  have hn := hT.1
  have hst := x_run_ge x_S T (n - e) e
  refine FnR_of okX4_advance (Nat.le_of_ble_eq_true rfl) fun l z => ?_
  show V _ _ _ _ _ _ _ _ 0 [(0, _)] []
  refine V_aload_n 0 0 dX4_advance_0 rfl ?_
  refine V_aload_n 1 0 dX4_advance_1 rfl ?_
  refine V_getI 2 flX4_32 dX4_advance_2 rfl ?_
  refine V_putI 5 flX4_126 ft_4_4 dX4_advance_5 rfl ?_
  rw [h5]
  refine ad_sp (n := n) (T := T) (n - e) e _ (by omega) ((w_put_other _ (Or.inr (by decide))).trans h2) (w_put_same _ _ _ _) (hT.fr (w_put_ne _ _ (by decide))) (fun I1 g1 g2 => ?_)
  have g2 : I1 2 4 = x_st T n e := g2
  have hf1 : FrT I I1 := (FrT.rf.put (by decide) (by decide)).trans g1
  have hst : e ≤ x_st T n e ∧ x_st T n e ≤ e + (n - e) := hst
  have hle : x_st T n e ≤ x_le T n e ∧ x_le T n e ≤ x_st T n e + (n - x_st T n e) := x_run_ge _ _ _ _
  have hde : x_st T n e ≤ x_de T n e ∧ x_de T n e ≤ x_st T n e + (n - x_st T n e) := x_run_ge _ _ _ _
  refine V_aload_n 60 0 dX4_advance_60 rfl ?_
  refine V_aload_n 61 0 dX4_advance_61 rfl ?_
  refine V_getI 62 flX4_126 dX4_advance_62 rfl ?_
  refine V_putI 65 flX4_32 ft_4_5 dX4_advance_65 rfl ?_
  refine V_aload_n 68 0 dX4_advance_68 rfl ?_
  refine V_cst 69 0 dX4_advance_69 rfl ?_
  refine V_putI 70 flX4_117 ft_4_6 dX4_advance_70 rfl ?_
  rw [g2]
  have hf2 : FrT I (w_put (w_put I1 2 5 (x_st T n e)) 2 6 0) := (hf1.put (by decide) (by decide)).put (by decide) (by decide)
  refine ad_le (n := n) (T := T) (s := x_st T n e) (n - x_st T n e) (x_st T n e) _ (by omega) ((hf2.2 2 (by decide)).trans h2) ?_ ?_ (w_put_same _ _ _ _) (hT.fr (hf2.1 1 (by decide))) (fun I2 k1 k2 k3 k4 => ?_)
  · rw [w_put_other _ (Or.inr (by decide)), w_put_other _ (Or.inr (by decide))]; exact g2
  · rw [w_put_other _ (Or.inr (by decide)), w_put_same]
  have k3 : I2 2 5 = x_le T n e := k3
  have hf3 := hf2.trans k1
  have e22 : I2 2 2 = n := (hf3.2 2 (by decide)).trans h2
  refine V_aload_n 125 0 dX4_advance_125 rfl ?_
  refine V_getI 126 flX4_32 dX4_advance_126 rfl ?_
  refine V_aload_n 129 0 dX4_advance_129 rfl ?_
  refine V_getI 130 flX4_126 dX4_advance_130 rfl ?_
  rw [k2, k3]
  refine V_cN_le 133 142 dX4_advance_133 (by decide) (by omega) (by omega) (fun c => ?_) (fun c => ?_)
  · -- no letters
    have ele : x_le T n e = x_st T n e := by omega
    rw [ele] at k3
    refine ad_de (n := n) (T := T) (s := x_st T n e) (n - x_st T n e) (x_st T n e) _ (by omega) (Nat.le_refl _) (fun j a b => by omega) e22 k2 k3 ?_ (hT.fr (hf3.1 1 (by decide))) (fun I3 m1 m2 m3 m4 => ?_)
    · rw [k4]; unfold x_vl; simp [x_dec]
    have m3 : I3 2 5 = x_de T n e := m3
    have m4 : I3 2 6 = x_vl T (x_st T n e) (x_de T n e) := m4
    have hf4 := hf3.trans m1
    have e32 : I3 2 2 = n := (hf4.2 2 (by decide)).trans h2
    have hva : x_va T n e = x_vl T (x_st T n e) (x_de T n e) := by unfold x_va; rw [if_neg (by omega)]
    refine V_aload_n 245 0 dX4_advance_245 rfl ?_
    refine V_getI 246 flX4_32 dX4_advance_246 rfl ?_
    refine V_aload_n 249 0 dX4_advance_249 rfl ?_
    refine V_getI 250 flX4_126 dX4_advance_250 rfl ?_
    rw [m2, m3]
    refine V_cN_le 253 264 dX4_advance_253 (by decide) (by omega) (by omega) (fun c1 => ?_) (fun c1 => ?_)
    · have ede : x_de T n e = x_st T n e := by omega
      refine V_aload_n 264 0 dX4_advance_264 rfl ?_
      refine V_getI 265 flX4_32 dX4_advance_265 rfl ?_
      refine V_aload_n 268 0 dX4_advance_268 rfl ?_
      refine V_getI 269 flX4_22 dX4_advance_269 rfl ?_
      rw [e32, m3, ede]
      refine V_cN_ge 272 311 dX4_advance_272 (by decide) (by omega) (by omega) (fun c2 => ?_) (fun c2 => ?_)
      · refine V_aload_n 311 0 dX4_advance_311 rfl ?_
        refine V_cst 312 0 dX4_advance_312 rfl ?_
        refine V_putI 313 flX4_38 ft_4_3 dX4_advance_313 rfl ?_
        refine V_ret 316 dX4_advance_316 rfl ⟨rfl, rfl, ⟨?_, ?_, ?_, ?_, ?_⟩, hf4.put (by decide) (by decide)⟩
        · rw [w_put_other _ (Or.inr (by decide))]; exact e32
        · rw [w_put_same]; unfold x_kd; rw [if_neg (by omega), if_neg (by omega), if_neg (by omega)]
        · rw [w_put_other _ (Or.inr (by decide))]; exact m2
        · rw [w_put_other _ (Or.inr (by decide)), m3]; unfold x_en; rw [if_neg (by omega), if_neg (by omega), if_neg (by omega)]; exact ede
        · rw [w_put_other _ (Or.inr (by decide)), m4, hva]
      · obtain ⟨t1, t2⟩ := hT.2 (x_st T n e) (by omega)
        have t2 : I3 1 (x_st T n e) = w_b8 (T (x_st T n e)) := by rw [hf4.1 1 (by decide)]; exact t2
        have hb := b8_lt (T (x_st T n e))
        have k295 : ∀ q, q = x_kd T n e → V mX4_advance (w_Er l d 0 0 Ω (w_pv (fun S' I' L' => S' = SH u v ∧ L = L' ∧ RT T n e I' ∧ FrT I I')) z) Ω 0 0 (SH u v) I3 L 295 [(0, .ref (Ω.1 + 2))] [.int (nI q), .ref (Ω.1 + 2)] := by
          intro q hq
          refine V_putI 295 flX4_38 ft_4_3 dX4_advance_295 rfl ?_
          refine V_aload_n 298 0 dX4_advance_298 rfl ?_
          refine V_dup 299 dX4_advance_299 rfl ?_
          refine V_getI 300 flX4_32 dX4_advance_300 rfl ?_
          refine V_cst 303 1 dX4_advance_303 rfl ?_
          refine V_add 304 dX4_advance_304 ?_
          refine V_putI 305 flX4_32 ft_4_5 dX4_advance_305 rfl ?_
          refine V_goto 308 316 dX4_advance_308 (by decide) ?_
          refine V_ret 316 dX4_advance_316 rfl ⟨rfl, rfl, ⟨?_, ?_, ?_, ?_, ?_⟩, (hf4.put (by decide) (by decide)).put (by decide) (by decide)⟩
          · rw [w_put_other _ (Or.inr (by decide)), w_put_other _ (Or.inr (by decide))]; exact e32
          · rw [w_put_other _ (Or.inr (by decide)), w_put_same, hq]
          · rw [w_put_other _ (Or.inr (by decide)), w_put_other _ (Or.inr (by decide))]; exact m2
          · rw [w_put_same, w_put_other _ (Or.inr (by decide)), m3]; unfold x_en; rw [if_neg (by omega), if_neg (by omega), if_pos (by omega), ede]
          · rw [w_put_other _ (Or.inr (by decide)), w_put_other _ (Or.inr (by decide)), m4, hva]
        have ek : x_kd T n e = if T (x_st T n e) = 59 then 3 else 4 := by unfold x_kd; rw [if_neg (by omega), if_neg (by omega), if_pos (by omega)]
        refine V_aload_n 275 0 dX4_advance_275 rfl ?_
        refine V_aload_n 276 0 dX4_advance_276 rfl ?_
        refine V_getR 277 flX4_18 dX4_advance_277 rfl ?_
        refine V_aload_n 280 0 dX4_advance_280 rfl ?_
        refine V_getI 281 flX4_32 dX4_advance_281 rfl ?_
        rw [m3, ede]
        refine V_bald 284 dX4_advance_284 rfl (by omega) (by omega) ?_
        refine V_bip 285 59 dX4_advance_285 rfl ?_
        rw [t2]
        refine V_cN_ne 287 294 dX4_advance_287 (by decide) (by omega) (by omega) (fun c3 => ?_) (fun c3 => ?_)
        · refine V_cst 294 4 dX4_advance_294 rfl ?_
          refine k295 _ ?_
          rw [ek, if_neg (fun h => c3 ((b8_eq t1 (by decide)).mpr h))]
        · refine V_cst 290 3 dX4_advance_290 rfl ?_
          refine V_goto 291 295 dX4_advance_291 (by decide) ?_
          refine k295 _ ?_
          rw [ek, if_pos ((b8_eq t1 (by decide)).mp c3)]
    · refine V_aload_n 256 0 dX4_advance_256 rfl ?_
      refine V_cst 257 2 dX4_advance_257 rfl ?_
      refine V_putI 258 flX4_38 ft_4_3 dX4_advance_258 rfl ?_
      refine V_goto 261 316 dX4_advance_261 (by decide) ?_
      refine V_ret 316 dX4_advance_316 rfl ⟨rfl, rfl, ⟨?_, ?_, ?_, ?_, ?_⟩, hf4.put (by decide) (by decide)⟩
      · rw [w_put_other _ (Or.inr (by decide))]; exact e32
      · rw [w_put_same]; unfold x_kd; rw [if_neg (by omega), if_pos (by omega)]
      · rw [w_put_other _ (Or.inr (by decide))]; exact m2
      · rw [w_put_other _ (Or.inr (by decide)), m3]; unfold x_en; rw [if_neg (by omega), if_pos (by omega)]
      · rw [w_put_other _ (Or.inr (by decide)), m4, hva]
  · refine V_aload_n 136 0 dX4_advance_136 rfl ?_
    refine V_cst 137 1 dX4_advance_137 rfl ?_
    refine V_putI 138 flX4_38 ft_4_3 dX4_advance_138 rfl ?_
    refine V_ret 141 dX4_advance_141 rfl ⟨rfl, rfl, ⟨?_, ?_, ?_, ?_, ?_⟩, hf3.put (by decide) (by decide)⟩
    · rw [w_put_other _ (Or.inr (by decide))]; exact e22
    · rw [w_put_same]; unfold x_kd; rw [if_pos (by omega)]
    · rw [w_put_other _ (Or.inr (by decide))]; exact k2
    · rw [w_put_other _ (Or.inr (by decide)), k3]; unfold x_en; rw [if_pos (by omega)]
    · rw [w_put_other _ (Or.inr (by decide)), k4]; unfold x_va; rw [if_pos (by omega)]
theorem x_en_le {e : Nat} (he : e ≤ n) : e ≤ x_en T n e ∧ x_st T n e ≤ x_en T n e ∧ x_en T n e ≤ n := by
  have hst : e ≤ x_st T n e ∧ x_st T n e ≤ e + (n - e) := x_run_ge _ _ _ _
  have hle : x_st T n e ≤ x_le T n e ∧ x_le T n e ≤ x_st T n e + (n - x_st T n e) := x_run_ge _ _ _ _
  have hde : x_st T n e ≤ x_de T n e ∧ x_de T n e ≤ x_st T n e + (n - x_st T n e) := x_run_ge _ _ _ _
  unfold x_en
  split
  · omega
  · split
    · omega
    · split <;> omega
end
