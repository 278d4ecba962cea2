section
variable {Ω : w_O} {d u v : Nat} {L : w_L} {E : w_E} {P Y C0 : w_R}
/-! markNewlyHeard -/
/-- a promise's row says when each first had heard it by the first t moments -/
def HRp (P Y C0 : w_R) (t p : Nat) (I : w_I) : Prop := I 53 p < 64 ∧ ∀ w, w < 6 → I 51 (p * 6 + w) = t_F P Y C0 t p w ∧ (I 53 p).testBit w = decide (t_F P Y C0 t p w < 1200)
theorem HRp.same {t p : Nat} {I I' : w_I} (h : HRp P Y C0 t p I) (h1 : I' 53 p = I 53 p) (h2 : ∀ w, w < 6 → I' 51 (p * 6 + w) = I 51 (p * 6 + w)) : HRp P Y C0 t p I' := by
  unfold HRp
  rw [h1]
  exact ⟨h.1, fun w hw => by rw [h2 w hw]; exact h.2 w hw⟩
theorem t_F_le {p w : Nat} : ∀ t, t ≤ 1200 → t_F P Y C0 t p w < 1200 ∨ t_F P Y C0 t p w = 1200 := by
  intro t
  induction t with
  | zero => intro _; exact Or.inr rfl
  | succ t ih =>
    intro h
    show (if t_F P Y C0 t p w < 1200 then t_F P Y C0 t p w else if (t_h P Y C0 t p).testBit w then t else 1200) < 1200 ∨ (if t_F P Y C0 t p w < 1200 then t_F P Y C0 t p w else if (t_h P Y C0 t p).testBit w then t else 1200) = 1200
    split
    · left; assumption
    · split <;> omega
theorem HRp.next0 {t p : Nat} {I : w_I} (h : HRp P Y C0 t p I) (ht : t < 1200) (hn : t_h P Y C0 t p &&& (I 53 p ^^^ mI) = 0) : HRp P Y C0 (t + 1) p I := by
  have key : ∀ w, w < 6 → t_F P Y C0 (t + 1) p w = t_F P Y C0 t p w := by
    intro w hw
    have h1 : (t_h P Y C0 t p &&& (I 53 p ^^^ mI)).testBit w = false := by rw [hn, Nat.zero_testBit]
    rw [Nat.testBit_and, tb_mI (by omega), (h.2 w hw).2] at h1
    show (if t_F P Y C0 t p w < 1200 then t_F P Y C0 t p w else if (t_h P Y C0 t p).testBit w then t else 1200) = t_F P Y C0 t p w
    by_cases c : t_F P Y C0 t p w < 1200
    · rw [if_pos c]
    · rw [if_neg c]
      have e : t_F P Y C0 t p w = 1200 := by
        have := t_F_le (P := P) (Y := Y) (C0 := C0) (p := p) (w := w) t (by omega)
        omega
      rw [e] at h1
      simp at h1
      rw [h1, e]
      rfl
  exact ⟨h.1, fun w hw => by rw [key w hw]; exact h.2 w hw⟩
theorem HRp.next {t p : Nat} {I I' : w_I} (h : HRp P Y C0 t p I) (ht : t < 1200) (hh : t_h P Y C0 t p < 64) (h1 : I' 53 p = I 53 p ||| (t_h P Y C0 t p &&& (I 53 p ^^^ mI))) (h2 : ∀ w, w < 6 → I' 51 (p * 6 + w) = if (t_h P Y C0 t p &&& (I 53 p ^^^ mI)).testBit w then t else I 51 (p * 6 + w)) : HRp P Y C0 (t + 1) p I' := by
  refine ⟨by rw [h1]; exact or6 h.1 (and_lt1 hh), fun w hw => ?_⟩
  rw [h2 w hw, h1, Nat.testBit_or, Nat.testBit_and, tb_mI (by omega), (h.2 w hw).2, (h.2 w hw).1]
  show (_ = if t_F P Y C0 t p w < 1200 then t_F P Y C0 t p w else if (t_h P Y C0 t p).testBit w then t else 1200) ∧ _ = decide ((if t_F P Y C0 t p w < 1200 then t_F P Y C0 t p w else if (t_h P Y C0 t p).testBit w then t else 1200) < 1200)
  have e := t_F_le (P := P) (Y := Y) (C0 := C0) (p := p) (w := w) t (by omega)
  rcases e with e | e
  · simp [e]
  · rw [e]
    cases c : (t_h P Y C0 t p).testBit w <;> simp [ht]
theorem mn_l {t : Nat} (hE : w_fit d E) (hP : s_POK P) (ht : t < 1200) (hh : ∀ p, t_h P Y C0 t p < 64) : ∀ (n j : Nat) (I : w_I), j + n = P 6 0 → PRep 15 P I → (∀ p, p < P 6 0 → I 57 p = t_h P Y C0 t p) → (∀ q, q < j → HRp P Y C0 (t + 1) q I) → (∀ q, j ≤ q → q < P 6 0 → HRp P Y C0 t q I) →
    (∀ I', (∀ q, q < P 6 0 → HRp P Y C0 (t + 1) q I') → Fr 51 54 I I' → I' 52 = I 52 → V mX6_markNewlyHeard E Ω 0 0 (SH u v) I' L 62 [(0, .ref (Ω.1 + 50)), (1, .int (nI t)), (2, .int (nI (P 6 0)))] []) →
    V mX6_markNewlyHeard E Ω 0 0 (SH u v) I L 2 [(0, .ref (Ω.1 + 50)), (1, .int (nI t)), (2, .int (nI j))] [] := by
  have hp12 := hP.2.2.2.2.1
  intro n
  induction n with
  | zero =>
    intro j I hj hR h57 h1 h2 hk
    have e : j = P 6 0 := by omega
    subst e
    refine V_iload_n 2 2 dX6_markNewlyHeard_2 rfl ?_
    refine V_aload_n 3 0 dX6_markNewlyHeard_3 rfl ?_
    refine V_getR 4 flX6_21 dX6_markNewlyHeard_4 rfl ?_
    refine V_getI 7 flX6_44 dX6_markNewlyHeard_7 rfl ?_
    rw [hR.2.2.2.2.1]
    refine V_cN_ge 10 62 dX6_markNewlyHeard_10 (by decide) (by omega) (by omega) (fun c => ?_) (fun c => ?_)
    · exact hk I h1 Fr.rf rfl
    · omega
  | succ n ih =>
    intro j I hj hR h57 h1 h2 hk
    have hjp : j < P 6 0 := by omega
    have hj2 := h2 j (Nat.le_refl _) hjp
    have h53 := hj2.1
    have hhj := hh j
    refine V_iload_n 2 2 dX6_markNewlyHeard_2 rfl ?_
    refine V_aload_n 3 0 dX6_markNewlyHeard_3 rfl ?_
    refine V_getR 4 flX6_21 dX6_markNewlyHeard_4 rfl ?_
    refine V_getI 7 flX6_44 dX6_markNewlyHeard_7 rfl ?_
    rw [hR.2.2.2.2.1]
    refine V_cN_ge 10 62 dX6_markNewlyHeard_10 (by decide) (by omega) (by omega) (fun c => ?_) (fun c => ?_)
    · omega
    refine V_aload_n 13 0 dX6_markNewlyHeard_13 rfl ?_
    refine V_getR 14 flX6_30 dX6_markNewlyHeard_14 rfl ?_
    refine V_getR 17 flX6_117 dX6_markNewlyHeard_17 rfl ?_
    refine V_iload_n 20 2 dX6_markNewlyHeard_20 rfl ?_
    refine V_iald 21 dX6_markNewlyHeard_21 rfl (by omega) (by omega) ?_
    rw [h57 j hjp]
    refine V_aload_n 22 0 dX6_markNewlyHeard_22 rfl ?_
    refine V_getR 23 flX6_18 dX6_markNewlyHeard_23 rfl ?_
    refine V_iload_n 26 2 dX6_markNewlyHeard_26 rfl ?_
    refine V_iald 27 dX6_markNewlyHeard_27 rfl (by omega) (by omega) ?_
    refine V_cst 28 4294967295 dX6_markNewlyHeard_28 rfl ?_
    refine V_xor 29 dX6_markNewlyHeard_29 ?_
    refine V_and 30 dX6_markNewlyHeard_30 ?_
    refine V_istore_n 31 [(0, _), (1, _), (2, _), (3, _)] dX6_markNewlyHeard_31 (by decide) rfl ?_
    refine V_iload_n 32 3 dX6_markNewlyHeard_32 rfl ?_
    refine V_zN_eq 33 56 dX6_markNewlyHeard_33 (by decide) (and_lt1 (by omega)) (fun c1 => ?_) (fun c1 => ?_)
    · refine V_inc 56 2 _ [(0, _), (1, _), (2, _), (3, _)] dX6_markNewlyHeard_56 rfl rfl rfl (by decide) rfl ?_
      refine V_goto 59 2 dX6_markNewlyHeard_59 (by decide) ?_
      refine V_sub [(0, _), (1, _), (2, _)] [0, 1, 2] rfl ?_
      refine ih (j + 1) I (by omega) hR h57 (fun q hq => ?_) (fun q a b => h2 q (by omega) b) hk
      by_cases e : q = j
      · rw [e]; exact hj2.next0 ht c1
      · exact h1 q (by omega)
    · refine V_aload_n 36 0 dX6_markNewlyHeard_36 rfl ?_
      refine V_getR 37 flX6_9 dX6_markNewlyHeard_37 rfl ?_
      refine V_iload_n 40 2 dX6_markNewlyHeard_40 rfl ?_
      refine V_iload_n 41 3 dX6_markNewlyHeard_41 rfl ?_
      refine V_iload_n 42 1 dX6_markNewlyHeard_42 rfl ?_
      refine V_sv 43 msX6_76 dX6_markNewlyHeard_43 (w_fit.mono (by omega) hE) (c_mark (d := d) (a := 51) (p := j) (t := t) rfl (by omega) (x := t_h P Y C0 t j &&& (I 53 j ^^^ mI)) (and_lt1 hhj)) rfl (Nat.le_of_ble_eq_true rfl) ?_
      rintro _ I1 _ ⟨rfl, rfl, g1, g2⟩
      have g53 : I1 53 = I 53 := g2 53 (by decide)
      refine V_aload_n 46 0 dX6_markNewlyHeard_46 rfl ?_
      refine V_getR 47 flX6_18 dX6_markNewlyHeard_47 rfl ?_
      refine V_iload_n 50 2 dX6_markNewlyHeard_50 rfl ?_
      refine V_dup2 51 dX6_markNewlyHeard_51 rfl rfl ?_
      refine V_iald 52 dX6_markNewlyHeard_52 rfl (by omega) (by omega) ?_
      refine V_iload_n 53 3 dX6_markNewlyHeard_53 rfl ?_
      refine V_or 54 dX6_markNewlyHeard_54 ?_
      refine V_iast 55 dX6_markNewlyHeard_55 rfl (by omega) (by omega) ?_
      refine V_inc 56 2 _ [(0, _), (1, _), (2, _), (3, _)] dX6_markNewlyHeard_56 rfl rfl rfl (by decide) rfl ?_
      refine V_goto 59 2 dX6_markNewlyHeard_59 (by decide) ?_
      refine V_sub [(0, _), (1, _), (2, _)] [0, 1, 2] rfl ?_
      rw [g53]
      have hf : Fr 51 54 I (w_put I1 53 j (I 53 j ||| (t_h P Y C0 t j &&& (I 53 j ^^^ mI)))) := (g2.wide (by decide) (by decide)).put (by decide) (by decide)
      refine ih (j + 1) _ (by omega) (hR.fr hf (by decide)) (fun p hp => by rw [hf 57 (by decide)]; exact h57 p hp) (fun q hq => ?_) (fun q a b => ?_) (fun I' k1 k2 k3 => ?_)
      · by_cases e : q = j
        · rw [e]
          refine hj2.next ht hhj (w_put_same _ _ _ _) (fun w hw => ?_)
          rw [w_put_other _ (Or.inl (by decide)), g1 j w hw]
          simp
        · refine (h1 q (by omega)).same ?_ (fun w hw => ?_)
          · rw [w_put_other _ (Or.inr e), g53]
          · rw [w_put_other _ (Or.inl (by decide)), g1 q w hw, if_neg (fun h => e h.1)]
      · refine (h2 q (by omega) b).same ?_ (fun w hw => ?_)
        · rw [w_put_other _ (Or.inr (by omega)), g53]
        · rw [w_put_other _ (Or.inl (by decide)), g1 q w hw, if_neg (fun h => by omega)]
      · refine hk I' k1 (hf.trans k2) ?_
        rw [k3, w_put_ne _ _ (by decide), g2 52 (by decide)]
theorem c_markNewlyHeard {I : w_I} {t : Nat} (hP : s_POK P) (ht : t < 1200) (hh : ∀ p, t_h P Y C0 t p < 64) (hR : PRep 15 P I) (h57 : ∀ p, p < P 6 0 → I 57 p = t_h P Y C0 t p) (h2 : ∀ q, q < P 6 0 → HRp P Y C0 t q I) : FnV Ω (d + 1) mX6_markNewlyHeard [.ref (Ω.1 + 50), .int (nI t)] (SH u v) I L (fun S' I' L' => S' = SH u v ∧ L = L' ∧ (∀ q, q < P 6 0 → HRp P Y C0 (t + 1) q I') ∧ Fr 51 54 I I' ∧ I' 52 = I 52) := by
  refine FnR_of okX6_markNewlyHeard (Nat.le_of_ble_eq_true rfl) fun l z => ?_
  show V _ _ _ _ _ _ _ _ 0 [(0, _), (1, _)] []
  refine V_cst 0 0 dX6_markNewlyHeard_0 rfl ?_
  refine V_istore_n 1 [(0, _), (1, _), (2, _)] dX6_markNewlyHeard_1 (by decide) rfl ?_
  refine mn_l (d := d) w_fit_r hP ht hh (P 6 0) 0 I (by omega) hR h57 (fun q hq => absurd hq (Nat.not_lt_zero _)) (fun q _ b => h2 q b) (fun I' k1 k2 k3 => ?_)
  exact V_ret 62 dX6_markNewlyHeard_62 rfl ⟨rfl, rfl, k1, k2, k3⟩
/-! truthOf, leastWhoMay -/
theorem c_truthOf {I : w_I} {w p m : Nat} (hw : w < 6) (hp : p < 12) (hm : m < 1200) (h51 : I 51 (p * 6 + w) ≤ 1200) (h52 : I 52 (p * 6 + w) ≤ 1200) : FnI Ω d mX6_truthOf [.ref (Ω.1 + 50), .int (nI w), .int (nI p), .int (nI m)] (SH u v) I L (fun r S' I' L' => r = nI (if I 51 (p * 6 + w) ≤ m then 2 else if I 52 (p * 6 + w) ≤ m then 1 else 0) ∧ S' = SH u v ∧ I = I' ∧ L = L') := by
  refine FnR_of okX6_truthOf (Nat.le_of_ble_eq_true rfl) fun l z => ?_
  show V _ _ _ _ _ _ _ _ 0 [(0, _), (1, _), (2, _), (3, _)] []
  refine V_iload_n 0 2 dX6_truthOf_0 rfl ?_
  refine V_bip 1 6 dX6_truthOf_1 rfl ?_
  refine V_mul 3 dX6_truthOf_3 ?_
  refine V_iload_n 4 1 dX6_truthOf_4 rfl ?_
  refine V_add 5 dX6_truthOf_5 ?_
  refine V_istore 6 [(0, _), (1, _), (2, _), (3, _), (4, _)] dX6_truthOf_6 (by decide) rfl ?_
  refine V_aload_n 8 0 dX6_truthOf_8 rfl ?_
  refine V_getR 9 flX6_9 dX6_truthOf_9 rfl ?_
  refine V_iload 12 4 dX6_truthOf_12 rfl ?_
  refine V_iald 14 dX6_truthOf_14 rfl (by omega) (by omega) ?_
  refine V_iload_n 15 3 dX6_truthOf_15 rfl ?_
  refine V_cN_gt 16 21 dX6_truthOf_16 (by decide) (by omega) (by omega) (fun c => ?_) (fun c => ?_)
  · refine V_aload_n 21 0 dX6_truthOf_21 rfl ?_
    refine V_getR 22 flX6_15 dX6_truthOf_22 rfl ?_
    refine V_iload 25 4 dX6_truthOf_25 rfl ?_
    refine V_iald 27 dX6_truthOf_27 rfl (by omega) (by omega) ?_
    refine V_iload_n 28 3 dX6_truthOf_28 rfl ?_
    refine V_cN_gt 29 36 dX6_truthOf_29 (by decide) (by omega) (by omega) (fun c1 => ?_) (fun c1 => ?_)
    · refine V_cst 36 0 dX6_truthOf_36 rfl ?_
      exact V_iret 37 dX6_truthOf_37 rfl ⟨by rw [if_neg (by omega), if_neg (by omega)], rfl, rfl, rfl⟩
    · refine V_cst 32 1 dX6_truthOf_32 rfl ?_
      refine V_goto 33 37 dX6_truthOf_33 (by decide) ?_
      exact V_iret 37 dX6_truthOf_37 rfl ⟨by rw [if_neg (by omega), if_pos (by omega)], rfl, rfl, rfl⟩
  · refine V_cst 19 2 dX6_truthOf_19 rfl ?_
    exact V_iret 20 dX6_truthOf_20 rfl ⟨by rw [if_pos (by omega)], rfl, rfl, rfl⟩
/-- the least of n people from w on for whom f holds, or -1 -/
def y_first (f : Nat → Bool) : Nat → Nat → Nat
  | _, 0 => mI
  | w, n + 1 => if f w then w else y_first f (w + 1) n
theorem lw_l {I : w_I} {p m : Nat} (hP : s_POK P) (hR : PRep 15 P I) (hp : p < 12) (hm : m < 1200) (h52 : ∀ w, w < 6 → I 52 (p * 6 + w) ≤ 1200) : ∀ (n w : Nat), w + n = P 0 0 →
    (∀ w', w' < 6 → y_first (fun w => decide (I 52 (p * 6 + w) ≤ m)) w n = w' → V mX6_leastWhoMay E Ω 0 0 (SH u v) I L 29 [(0, .ref (Ω.1 + 50)), (1, .int (nI p)), (2, .int (nI m)), (3, .int (nI w'))] [.int (nI w')]) →
    (∀ w', y_first (fun w => decide (I 52 (p * 6 + w) ≤ m)) w n = mI → V mX6_leastWhoMay E Ω 0 0 (SH u v) I L 36 [(0, .ref (Ω.1 + 50)), (1, .int (nI p)), (2, .int (nI m)), (3, .int (nI w'))] []) →
    V mX6_leastWhoMay E Ω 0 0 (SH u v) I L 2 [(0, .ref (Ω.1 + 50)), (1, .int (nI p)), (2, .int (nI m)), (3, .int (nI w))] [] := by
  have h6 := hP.1.2
  intro n
  induction n with
  | zero =>
    intro w hw k1 k2
    refine V_iload_n 2 3 dX6_leastWhoMay_2 rfl ?_
    refine V_aload_n 3 0 dX6_leastWhoMay_3 rfl ?_
    refine V_getR 4 flX6_21 dX6_leastWhoMay_4 rfl ?_
    refine V_getI 7 flX6_61 dX6_leastWhoMay_7 rfl ?_
    rw [hR.1]
    refine V_cN_ge 10 36 dX6_leastWhoMay_10 (by decide) (by omega) (by omega) (fun c => ?_) (fun c => ?_)
    · exact k2 w rfl
    · omega
  | succ n ih =>
    intro w hw k1 k2
    have hb := h52 w (by omega)
    refine V_iload_n 2 3 dX6_leastWhoMay_2 rfl ?_
    refine V_aload_n 3 0 dX6_leastWhoMay_3 rfl ?_
    refine V_getR 4 flX6_21 dX6_leastWhoMay_4 rfl ?_
    refine V_getI 7 flX6_61 dX6_leastWhoMay_7 rfl ?_
    rw [hR.1]
    refine V_cN_ge 10 36 dX6_leastWhoMay_10 (by decide) (by omega) (by omega) (fun c => ?_) (fun c => ?_)
    · omega
    refine V_aload_n 13 0 dX6_leastWhoMay_13 rfl ?_
    refine V_getR 14 flX6_15 dX6_leastWhoMay_14 rfl ?_
    refine V_iload_n 17 1 dX6_leastWhoMay_17 rfl ?_
    refine V_bip 18 6 dX6_leastWhoMay_18 rfl ?_
    refine V_mul 20 dX6_leastWhoMay_20 ?_
    refine V_iload_n 21 3 dX6_leastWhoMay_21 rfl ?_
    refine V_add 22 dX6_leastWhoMay_22 ?_
    refine V_iald 23 dX6_leastWhoMay_23 rfl (by omega) (by omega) ?_
    refine V_iload_n 24 2 dX6_leastWhoMay_24 rfl ?_
    have e : y_first (fun w => decide (I 52 (p * 6 + w) ≤ m)) w (n + 1) = if I 52 (p * 6 + w) ≤ m then w else y_first (fun w => decide (I 52 (p * 6 + w) ≤ m)) (w + 1) n := by
      simp [y_first]
    refine V_cN_gt 25 30 dX6_leastWhoMay_25 (by decide) (by omega) (by omega) (fun c1 => ?_) (fun c1 => ?_)
    · rw [if_neg (by omega)] at e
      refine V_inc 30 3 _ [(0, _), (1, _), (2, _), (3, _)] dX6_leastWhoMay_30 rfl rfl rfl (by decide) rfl ?_
      refine V_goto 33 2 dX6_leastWhoMay_33 (by decide) ?_
      exact ih (w + 1) (by omega) (fun w' h1 h2 => k1 w' h1 (e.trans h2)) (fun w' h1 => k2 w' (e.trans h1))
    · rw [if_pos (by omega)] at e
      refine V_iload_n 28 3 dX6_leastWhoMay_28 rfl ?_
      exact k1 w (by omega) e
theorem c_leastWhoMay {I : w_I} {p m : Nat} (hP : s_POK P) (hR : PRep 15 P I) (hp : p < 12) (hm : m < 1200) (h52 : ∀ w, w < 6 → I 52 (p * 6 + w) ≤ 1200) : FnI Ω d mX6_leastWhoMay [.ref (Ω.1 + 50), .int (nI p), .int (nI m)] (SH u v) I L (fun r S' I' L' => r = nI (y_first (fun w => decide (I 52 (p * 6 + w) ≤ m)) 0 (P 0 0)) ∧ S' = SH u v ∧ I = I' ∧ L = L') := by
  refine FnR_of okX6_leastWhoMay (Nat.le_of_ble_eq_true rfl) fun l z => ?_
  show V _ _ _ _ _ _ _ _ 0 [(0, _), (1, _), (2, _)] []
  refine V_cst 0 0 dX6_leastWhoMay_0 rfl ?_
  refine V_istore_n 1 [(0, _), (1, _), (2, _), (3, _)] dX6_leastWhoMay_1 (by decide) rfl ?_
  refine lw_l hP hR hp hm h52 (P 0 0) 0 (by omega) (fun w' h1 h2 => ?_) (fun w' h1 => ?_)
  · exact V_iret 29 dX6_leastWhoMay_29 rfl ⟨by rw [h2], rfl, rfl, rfl⟩
  · refine V_cst 36 4294967295 dX6_leastWhoMay_36 rfl ?_
    exact V_iret 37 dX6_leastWhoMay_37 rfl ⟨by rw [h1], rfl, rfl, rfl⟩
end
