theorem FnR_of1 {Ω : w_O} {d : Nat} {M : w_M} {av : List Value} {S : List w_SC} {I : w_I} {L : w_L} {Po : w_Po} (hok : w_ok M) (ha : (lg_sl av).length ≤ M.2.2.2.1) (h : ∀ l z, w_fit d (w_Er l (d + 1) 0 0 Ω Po z) → V M (w_Er l (d + 1) 0 0 Ω Po z) Ω 0 0 S I L 0 (lv_args 0 av) []) : FnR Ω (d + 1) M av S I L Po := FnR_of hok ha fun l z => h l z w_fit_r
theorem FrD.p83 {t x : Nat} {I I' : w_I} (h : FrD t I I') : FrD t I (w_put I' 80 t x) := by
  refine ⟨fun i hi => (w_put_ne I' i (by omega)).trans (h.1 i hi), fun q hq => ?_, fun q hq => ?_⟩
  · rw [w_put_other I' (Or.inr hq), w_put_ne I' 81 (by decide)]; exact h.2.1 q hq
  · rw [w_put_ne I' 82 (by decide), w_put_ne I' 83 (by decide), w_put_ne I' 84 (by decide), w_put_ne I' 85 (by decide)]; exact h.2.2 q hq
section
variable {P C : w_R} {D : Nat → Prop}
/-- p falls at its turn -/
def d_f (P C : w_R) (p : Nat) : Prop := (C 3 0).testBit p = true ∧ ¬ ((C 5 0).testBit p = true ∧ P 11 p &&& C 4 0 = 0)
theorem dusk1_eq (p : Nat) : (d_f P C p → s_dusk1 P C p = w_put (w_put (s_undo C p) 8 p (s_undo C p 9 p)) 9 p 0) ∧ (¬ d_f P C p → s_dusk1 P C p = w_put (w_put C 8 p (C 9 p)) 9 p 0) := by
  have e1 : (C 3 0 / 2 ^ p) &&& 1 ≠ 0 ↔ (C 3 0).testBit p = true := bitN_iff _ _
  have e5 : (C 5 0 / 2 ^ p) &&& 1 ≠ 0 ↔ (C 5 0).testBit p = true := bitN_iff _ _
  unfold s_dusk1 d_f
  (try dsimp only)
  simp only [e1, e5]
  constructor
  · intro h; rw [if_pos h]
  · intro h; rw [if_neg h]
theorem dusk1_yes {p : Nat} (h : d_f P C p) : s_dusk1 P C p 2 0 = C 2 0 + 1 ∧ (∀ q, s_dusk1 P C p 7 q = if q = p then C 0 0 else C 7 q) ∧ (∀ q, s_dusk1 P C p 8 q = if q = p then C 9 q else C 8 q) ∧ (∀ q, s_dusk1 P C p 9 q = if q = p then 0 else C 9 q) ∧ s_dusk1 P C p 0 0 = C 0 0 ∧ s_dusk1 P C p 1 0 = C 1 0 := by
  rw [(dusk1_eq p).1 h]
  unfold s_undo
  refine ⟨?_, fun q => ?_, fun q => ?_, fun q => ?_, ?_, ?_⟩ <;> simp [w_put_eq]
  by_cases e : q = p
  · rw [if_pos e, if_pos e, e]
  · rw [if_neg e, if_neg e]
theorem dusk1_no {p : Nat} (h : ¬ d_f P C p) : s_dusk1 P C p 2 0 = C 2 0 ∧ (∀ q, s_dusk1 P C p 7 q = C 7 q) ∧ (∀ q, s_dusk1 P C p 8 q = if q = p then C 9 q else C 8 q) ∧ (∀ q, s_dusk1 P C p 9 q = if q = p then 0 else C 9 q) ∧ s_dusk1 P C p 0 0 = C 0 0 ∧ s_dusk1 P C p 1 0 = C 1 0 := by
  rw [(dusk1_eq p).2 h]
  refine ⟨?_, fun q => ?_, fun q => ?_, fun q => ?_, ?_, ?_⟩ <;> simp [w_put_eq]
  by_cases e : q = p
  · rw [if_pos e, if_pos e, e]
  · rw [if_neg e, if_neg e]
theorem d_C_more : ∀ j, d_C P C j 0 0 = C 0 0 ∧ d_C P C j 1 0 = C 1 0 ∧ (∀ q, d_C P C j 8 q = if q < j then C 9 q else C 8 q) ∧ (∀ q, d_C P C j 9 q = if q < j then 0 else C 9 q) ∧ (∀ q, j ≤ q → d_C P C j 7 q = C 7 q) := by
  intro j
  induction j with
  | zero => exact ⟨rfl, rfl, fun q => rfl, fun q => rfl, fun q _ => rfl⟩
  | succ j ih =>
    obtain ⟨a, b, c, e, f⟩ := ih
    rw [d_C_succ]
    have h89 : ∀ (x y : Nat → Nat), (∀ q, x q = if q = j then d_C P C j 9 q else d_C P C j 8 q) → (∀ q, y q = if q = j then 0 else d_C P C j 9 q) → (∀ q, x q = if q < j + 1 then C 9 q else C 8 q) ∧ (∀ q, y q = if q < j + 1 then 0 else C 9 q) := by
      intro x y hx hy
      refine ⟨fun q => ?_, fun q => ?_⟩
      · rw [hx, c, e]
        by_cases h1 : q = j
        · rw [if_pos h1, if_neg (by omega), if_pos (by omega)]
        · rw [if_neg h1]
          by_cases h2 : q < j
          · rw [if_pos h2, if_pos (by omega)]
          · rw [if_neg h2, if_neg (by omega)]
      · rw [hy, e]
        by_cases h1 : q = j
        · rw [if_pos h1, if_pos (by omega)]
        · rw [if_neg h1]
          by_cases h2 : q < j
          · rw [if_pos h2, if_pos (by omega)]
          · rw [if_neg h2, if_neg (by omega)]
    by_cases h : d_f P (d_C P C j) j
    · obtain ⟨_, g7, g8, g9, g0, g1⟩ := dusk1_yes h
      obtain ⟨k8, k9⟩ := h89 _ _ g8 g9
      exact ⟨g0.trans a, g1.trans b, k8, k9, fun q hq => by rw [g7, if_neg (by omega)]; exact f q (by omega)⟩
    · obtain ⟨_, g7, g8, g9, g0, g1⟩ := dusk1_no h
      obtain ⟨k8, k9⟩ := h89 _ _ g8 g9
      exact ⟨g0.trans a, g1.trans b, k8, k9, fun q hq => by rw [g7]; exact f q (by omega)⟩
theorem d_fall {j : Nat} (hP : s_POK P) (hj : j < P 6 0) (hC : COK C) (hD : HD P D C) : d_f P (d_C P C j) j ↔ ((q_st C j = 1 ∧ (C 5 0).testBit j = false) ∨ (d_1 C j = 1 ∧ m_lB P (d_B P C j) j 0 (P 6 0) = false)) := by
  have h12 := hP.2.2.2.2.1
  obtain ⟨a, b, c, e⟩ := d_C_all hP hC hD j (by omega)
  obtain ⟨e1, e2⟩ := e j (Nat.le_refl _) (by omega)
  unfold d_f
  rw [e1, c, ← HD_st hD j]
  by_cases hs : q_st C j = 1
  · have hl := lB_iff hP hj hC hD ((HD_st hD j).mp hs)
    cases h5 : (C 5 0).testBit j
    · simp [hs]
    · have hd : d_1 C j = 1 := by unfold d_1; rw [if_neg (fun q => by rw [h5] at q; exact absurd q.2 (by decide))]; exact hs
      rw [hd, ← hl]
      simp [hs]
  · have hd : d_1 C j = q_st C j := by unfold d_1; rw [if_neg (fun q => hs q.1)]
    rw [hd]
    simp [hs]
end
section
variable {Ω : w_O} {d u v : Nat} {L : w_L} {E : w_E} {P Y C : w_R} {t : Nat} {D : Nat → Prop}
/-- the second pass, before promise j -/
def D2 (t : Nat) (P C : w_R) (j : Nat) (I : w_I) : Prop := I 80 t = C 0 0 ∧ I 81 t = C 1 0 ∧ ∀ q, q < P 6 0 → I 82 (12 * t + q) = d_B P C j q ∧ I 83 (12 * t + q) = (if q < j then d_C P C j 7 q else if q_st C q = 1 ∧ (C 5 0).testBit q = false then C 0 0 else C 7 q) ∧ I 84 (12 * t + q) = C 8 q ∧ I 85 (12 * t + q) = C 9 q
theorem D1.two {I : w_I} (h : D1 t P C (P 6 0) I) : D2 t P C 0 I := by
  obtain ⟨m0, m1, m2⟩ := h
  refine ⟨m0, m1, fun q hq => ?_⟩
  obtain ⟨b1, b2, b3, b4, -⟩ := m2 q hq
  refine ⟨?_, ?_, b3, b4⟩
  · rw [b1, if_pos hq]; unfold d_B; rw [if_neg (Nat.not_lt_zero _)]
  · rw [b2, if_neg (Nat.not_lt_zero _)]; simp only [hq, true_and]
theorem d_B_lt (j q : Nat) : d_B P C j q < 3 := by
  unfold d_B d_1
  split
  · exact q_st_lt _ _
  · split
    · decide
    · exact q_st_lt _ _
theorem dk2_l (hE : w_fit d E) (ht : t < 3) (hP : s_POK P) (hC : COK C) (hD : HD P D C) : ∀ (n j k : Nat) (I : w_I), j + n = P 6 0 → k ≤ j → k + d_n1 C j + C 2 0 = d_C P C j 2 0 → MP P I → D2 t P C j I →
    (∀ I' x k, k ≤ 12 → k + d_n1 C (P 6 0) + C 2 0 = d_C P C (P 6 0) 2 0 → D2 t P C (P 6 0) I' → FrD t I I' → V mX8_dusk E Ω 0 0 (SH u v) I' L 110 [(0, .ref (Ω.1 + 63)), (1, .int (nI t)), (2, .int (nI (d_n1 C (P 6 0) + k))), (3, .int (nI x))] []) →
    V mX8_dusk E Ω 0 0 (SH u v) I L 58 [(0, .ref (Ω.1 + 63)), (1, .int (nI t)), (2, .int (nI (d_n1 C (P 6 0) + k))), (3, .int (nI j))] [] := by
  have h12 := hP.2.2.2.2.1
  intro n
  induction n with
  | zero =>
    intro j k I hj hkj hc hMP hM hk
    have e : j = P 6 0 := by omega
    subst e
    refine V_iload_n 58 3 dX8_dusk_58 rfl ?_
    refine V_aload_n 59 0 dX8_dusk_59 rfl ?_
    refine V_getR 60 flX8_7 dX8_dusk_60 rfl ?_
    refine V_cst 63 2 dX8_dusk_63 rfl ?_
    refine V_iald 64 dX8_dusk_64 rfl (by omega) (by omega) ?_
    rw [hMP.2.2.1]
    refine V_cN_ge 65 110 dX8_dusk_65 (by decide) (by omega) (by omega) (fun c => ?_) (fun c => ?_)
    · exact hk I _ k (by omega) hc hM FrD.rf
    · omega
  | succ n ih =>
    intro j k I hj hkj hc hMP hM hk
    obtain ⟨m0, m1, m2⟩ := hM
    obtain ⟨a1, a2, a3, a4⟩ := m2 j (by omega)
    have hj6 : j < P 6 0 := by omega
    have hdB : d_B P C j j = d_1 C j := by unfold d_B; rw [if_neg (Nat.lt_irrefl _)]
    rw [hdB] at a1
    have hs : d_1 C j < 3 := by rw [← hdB]; exact d_B_lt j j
    have hn := d_n1_succ C j
    have hst := d_step hP hj6 hC hD
    have hfl := d_fall hP hj6 hC hD
    obtain ⟨COKj, -, -, -⟩ := d_C_all hP hC hD j (by omega)
    have hB1 : ∀ q, q < P 6 0 → q ≠ j → d_B P C (j + 1) q = d_B P C j q := by
      intro q hq hne
      unfold d_B
      by_cases h2 : q < j
      · rw [if_pos (by omega), if_pos h2, d_C_succ, dusk1_st COKj (by omega), if_neg (fun w => hne w.1)]
      · rw [if_neg (by omega), if_neg h2]
    have hBj : d_B P C (j + 1) j = q_st (d_C P C (j + 1)) j := by unfold d_B; rw [if_pos (by omega)]
    have h7 : ∀ q, q ≠ j → d_C P C (j + 1) 7 q = d_C P C j 7 q := by
      intro q hne
      rw [d_C_succ]
      by_cases h : d_f P (d_C P C j) j
      · rw [(dusk1_yes h).2.1, if_neg hne]
      · rw [(dusk1_no h).2.1]
    have h86 : ∀ q, q ≠ j → (if q < j + 1 then d_C P C (j + 1) 7 q else if q_st C q = 1 ∧ (C 5 0).testBit q = false then C 0 0 else C 7 q) = (if q < j then d_C P C j 7 q else if q_st C q = 1 ∧ (C 5 0).testBit q = false then C 0 0 else C 7 q) := by
      intro q hne
      by_cases h2 : q < j
      · rw [if_pos (by omega), if_pos h2, h7 q hne]
      · rw [if_neg (by omega), if_neg h2]
    have no : ¬ (d_1 C j = 1 ∧ m_lB P (d_B P C j) j 0 (P 6 0) = false) → V mX8_dusk E Ω 0 0 (SH u v) I L 104 [(0, .ref (Ω.1 + 63)), (1, .int (nI t)), (2, .int (nI (d_n1 C (P 6 0) + k))), (3, .int (nI j))] [] := by
      intro h
      rw [if_neg h] at hst
      have key : k + d_n1 C (j + 1) + C 2 0 = d_C P C (j + 1) 2 0 ∧ I 83 (12 * t + j) = d_C P C (j + 1) 7 j := by
        rw [a2, if_neg (Nat.lt_irrefl _), hn, d_C_succ]
        by_cases h2 : q_st C j = 1 ∧ (C 5 0).testBit j = false
        · have hf := hfl.mpr (Or.inl h2)
          rw [if_pos h2, if_pos h2, (dusk1_yes hf).1, (dusk1_yes hf).2.1, if_pos rfl, (d_C_more j).1]
          exact ⟨by omega, rfl⟩
        · have hf : ¬ d_f P (d_C P C j) j := fun w => by
            rcases hfl.mp w with w | w
            · exact h2 w
            · exact h w
          rw [if_neg h2, if_neg h2, (dusk1_no hf).1, (dusk1_no hf).2.1, (d_C_more j).2.2.2.2 j (Nat.le_refl _)]
          exact ⟨by omega, rfl⟩
      refine V_inc 104 3 _ [(0, _), (1, _), (2, _), (3, _)] dX8_dusk_104 rfl rfl rfl (by decide) rfl ?_
      refine V_goto 107 58 dX8_dusk_107 (by decide) ?_
      refine ih (j + 1) k I (by omega) (by omega) key.1 hMP ⟨m0, m1, fun q hq => ?_⟩ hk
      obtain ⟨b1, b2, b3, b4⟩ := m2 q hq
      by_cases e : q = j
      · subst e
        refine ⟨?_, ?_, b3, b4⟩
        · rw [hBj, hst, a1]
        · rw [if_pos (by omega)]; exact key.2
      · refine ⟨?_, ?_, b3, b4⟩
        · rw [hB1 q hq e, b1]
        · rw [h86 q e, b2]
    refine V_iload_n 58 3 dX8_dusk_58 rfl ?_
    refine V_aload_n 59 0 dX8_dusk_59 rfl ?_
    refine V_getR 60 flX8_7 dX8_dusk_60 rfl ?_
    refine V_cst 63 2 dX8_dusk_63 rfl ?_
    refine V_iald 64 dX8_dusk_64 rfl (by omega) (by omega) ?_
    rw [hMP.2.2.1]
    refine V_cN_ge 65 110 dX8_dusk_65 (by decide) (by omega) (by omega) (fun c => ?_) (fun c => ?_)
    · omega
    refine V_aload_n 68 0 dX8_dusk_68 rfl ?_
    refine V_getR 69 flX8_68 dX8_dusk_69 rfl ?_
    refine V_bip 72 12 dX8_dusk_72 rfl ?_
    refine V_iload_n 74 1 dX8_dusk_74 rfl ?_
    refine V_mul 75 dX8_dusk_75 ?_
    refine V_iload_n 76 3 dX8_dusk_76 rfl ?_
    refine V_add 77 dX8_dusk_77 ?_
    refine V_iald 78 dX8_dusk_78 rfl (by omega) (by omega) ?_
    refine V_cst 79 1 dX8_dusk_79 rfl ?_
    rw [a1]
    refine V_cN_ne 80 104 dX8_dusk_80 (by decide) (by omega) (by omega) (fun c1 => ?_) (fun c1 => ?_)
    · exact no (fun h => c1 h.1)
    refine V_aload_n 83 0 dX8_dusk_83 rfl ?_
    refine V_iload_n 84 1 dX8_dusk_84 rfl ?_
    refine V_iload_n 85 3 dX8_dusk_85 rfl ?_
    refine V_vi 86 mvX8_261 dX8_dusk_86 ⟨_, _, _, rfl, rfl, rfl⟩ (w_fit.mono (by omega) hE) (m_leansWellB (d := d) (p := j) ht hP hj6 hMP (d_B_lt j) (fun q hq => (m2 q hq).1)) rfl (Nat.le_of_ble_eq_true rfl) ?_
    rintro _ _ _ _ ⟨rfl, rfl, rfl, rfl⟩
    cases hm : m_lB P (d_B P C j) j 0 (P 6 0)
    rotate_left
    · rw [if_pos rfl]
      refine V_zN_eq 89 95 dX8_dusk_89 (by decide) (by omega) (fun c2 => ?_) (fun c2 => ?_)
      · exact absurd c2 (by decide)
      refine V_goto 92 104 dX8_dusk_92 (by decide) ?_
      exact no (fun h => by rw [hm] at h; exact absurd h.2 (by decide))
    rw [if_neg (by decide)]
    refine V_zN_eq 89 95 dX8_dusk_89 (by decide) (by omega) (fun c2 => ?_) (fun c2 => ?_)
    rotate_left
    · exact absurd rfl c2
    refine V_aload_n 95 0 dX8_dusk_95 rfl ?_
    refine V_iload_n 96 1 dX8_dusk_96 rfl ?_
    refine V_iload_n 97 3 dX8_dusk_97 rfl ?_
    refine V_vv 98 mvX8_265 dX8_dusk_98 ⟨_, _, _, rfl, rfl, rfl⟩ (w_fit.mono (by omega) hE) (m_undo0 (d := d) (p := j) ht (by omega)) rfl (Nat.le_of_ble_eq_true rfl) ?_
    rintro _ I1 _ ⟨rfl, rfl, k1⟩
    have hf : FrD t I I1 := by rw [k1]; exact (FrD.rf.put (by decide) (by decide) (by omega) (by omega)).put (by decide) (by decide) (by omega) (by omega)
    have hx := hfl.mpr (Or.inr ⟨c1, hm⟩)
    rw [if_pos ⟨c1, hm⟩] at hst
    have hno : ¬ (q_st C j = 1 ∧ (C 5 0).testBit j = false) := by
      intro w
      have : d_1 C j = 2 := by unfold d_1; rw [if_pos w]
      omega
    rw [if_neg hno] at hn
    have key : (k + 1) + d_n1 C (j + 1) + C 2 0 = d_C P C (j + 1) 2 0 := by
      rw [hn, d_C_succ, (dusk1_yes hx).1]; omega
    refine V_inc 101 2 _ [(0, _), (1, _), (2, _), (3, _)] dX8_dusk_101 rfl rfl rfl (by decide) rfl ?_
    refine V_inc 104 3 _ [(0, _), (1, _), (2, _), (3, _)] dX8_dusk_104 rfl rfl rfl (by decide) rfl ?_
    refine V_goto 107 58 dX8_dusk_107 (by decide) ?_
    refine ih (j + 1) (k + 1) I1 (by omega) (by omega) key (hf.mp hMP) ⟨?_, ?_, fun q hq => ?_⟩ (fun I' x k h0 h1 h2 h3 => hk I' x k h0 h1 h2 (hf.trans h3))
    · rw [k1, w_put_ne _ _ (by decide), w_put_ne _ _ (by decide)]; exact m0
    · rw [k1, w_put_ne _ _ (by decide), w_put_ne _ _ (by decide)]; exact m1
    · obtain ⟨b1, b2, b3, b4⟩ := m2 q hq
      rw [k1, m0]
      by_cases e : q = j
      · subst e
        have h75 : d_C P C (q + 1) 7 q = C 0 0 := by rw [d_C_succ, (dusk1_yes hx).2.1, if_pos rfl, (d_C_more q).1]
        rw [hBj, hst, if_pos (by omega), h75]
        simp [w_put_eq, b3, b4]
      · have e3 : ¬ (12 * t + q = 12 * t + j) := by omega
        rw [hB1 q hq e, h86 q e]
        simp only [w_put_eq, e3, and_false, if_false]
        exact ⟨b1, b2, b3, b4⟩
/-- the third pass -/
theorem dk3_l {x : Nat} (ht : t < 3) (hP : s_POK P) (hx : x < 1000) : ∀ (n j : Nat) (I : w_I), j + n = P 6 0 → MP P I →
    (∀ I' y, (∀ q, q < P 6 0 → I' 84 (12 * t + q) = if q < j then I 84 (12 * t + q) else I 85 (12 * t + q)) → (∀ i, i ≠ 84 → I' i = I i) → FrD t I I' → V mX8_dusk E Ω 0 0 (SH u v) I' L 150 [(0, .ref (Ω.1 + 63)), (1, .int (nI t)), (2, .int (nI x)), (3, .int (nI y))] []) →
    V mX8_dusk E Ω 0 0 (SH u v) I L 112 [(0, .ref (Ω.1 + 63)), (1, .int (nI t)), (2, .int (nI x)), (3, .int (nI j))] [] := by
  have h12 := hP.2.2.2.2.1
  intro n
  induction n with
  | zero =>
    intro j I hj hMP hk
    refine V_iload_n 112 3 dX8_dusk_112 rfl ?_
    refine V_aload_n 113 0 dX8_dusk_113 rfl ?_
    refine V_getR 114 flX8_7 dX8_dusk_114 rfl ?_
    refine V_cst 117 2 dX8_dusk_117 rfl ?_
    refine V_iald 118 dX8_dusk_118 rfl (by omega) (by omega) ?_
    rw [hMP.2.2.1]
    refine V_cN_ge 119 150 dX8_dusk_119 (by decide) (by omega) (by omega) (fun c => ?_) (fun c => ?_)
    · exact hk I _ (fun q hq => by rw [if_pos (by omega)]) (fun _ _ => rfl) FrD.rf
    · omega
  | succ n ih =>
    intro j I hj hMP hk
    refine V_iload_n 112 3 dX8_dusk_112 rfl ?_
    refine V_aload_n 113 0 dX8_dusk_113 rfl ?_
    refine V_getR 114 flX8_7 dX8_dusk_114 rfl ?_
    refine V_cst 117 2 dX8_dusk_117 rfl ?_
    refine V_iald 118 dX8_dusk_118 rfl (by omega) (by omega) ?_
    rw [hMP.2.2.1]
    refine V_cN_ge 119 150 dX8_dusk_119 (by decide) (by omega) (by omega) (fun c => ?_) (fun c => ?_)
    · omega
    refine V_aload_n 122 0 dX8_dusk_122 rfl ?_
    refine V_getR 123 flX8_74 dX8_dusk_123 rfl ?_
    refine V_bip 126 12 dX8_dusk_126 rfl ?_
    refine V_iload_n 128 1 dX8_dusk_128 rfl ?_
    refine V_mul 129 dX8_dusk_129 ?_
    refine V_iload_n 130 3 dX8_dusk_130 rfl ?_
    refine V_add 131 dX8_dusk_131 ?_
    refine V_aload_n 132 0 dX8_dusk_132 rfl ?_
    refine V_getR 133 flX8_77 dX8_dusk_133 rfl ?_
    refine V_bip 136 12 dX8_dusk_136 rfl ?_
    refine V_iload_n 138 1 dX8_dusk_138 rfl ?_
    refine V_mul 139 dX8_dusk_139 ?_
    refine V_iload_n 140 3 dX8_dusk_140 rfl ?_
    refine V_add 141 dX8_dusk_141 ?_
    refine V_iald 142 dX8_dusk_142 rfl (by omega) (by omega) ?_
    refine V_iast 143 dX8_dusk_143 rfl (by omega) (by omega) ?_
    refine V_inc 144 3 _ [(0, _), (1, _), (2, _), (3, _)] dX8_dusk_144 rfl rfl rfl (by decide) rfl ?_
    refine V_goto 147 112 dX8_dusk_147 (by decide) ?_
    have hf : FrD t I (w_put I 84 (12 * t + j) (I 85 (12 * t + j))) := FrD.rf.put (by decide) (by decide) (by omega) (by omega)
    refine ih (j + 1) _ (by omega) (hf.mp hMP) (fun I' y h1 h2 h3 => hk I' y (fun q hq => ?_) (fun i hi => ?_) (hf.trans h3))
    · rw [h1 q hq, w_put_ne I 85 (by decide)]
      by_cases e : q = j
      · subst e
        rw [if_pos (by omega), w_put_same, if_neg (Nat.lt_irrefl _)]
      · rw [w_put_other I (Or.inr (by omega))]
        by_cases h2 : q < j
        · rw [if_pos (by omega), if_pos h2]
        · rw [if_neg (by omega), if_neg h2]
    · rw [h2 i hi, w_put_ne I i hi]
theorem m_dusk {I : w_I} (ht : t < 3) (hP : s_POK P) (hC : COK C) (hD : HD P D C) (hMP : MP P I) (hM : MD t P C I) : FnI Ω (d + 1) mX8_dusk [.ref (Ω.1 + 63), .int (nI t)] (SH u v) I L (fun r S' I' L' => r = nI (s_dusk P C 2 0 - C 2 0) ∧ S' = SH u v ∧ L = L' ∧ MC t P (s_dusk P C) I' ∧ FrD t I I' ∧ C 2 0 ≤ s_dusk P C 2 0 ∧ s_dusk P C 2 0 ≤ C 2 0 + 24) := by
  have h12 := hP.2.2.2.2.1
  have hn12 : d_n1 C (P 6 0) ≤ 12 := by
    unfold d_n1
    have := List.length_filter_le (fun p => q_st C p == 1 && !(C 5 0).testBit p) (List.range (P 6 0))
    rw [List.length_range] at this
    omega
  refine FnR_of1 okX8_dusk (Nat.le_of_ble_eq_true rfl) fun l z hE => ?_
  show V _ _ _ _ _ _ _ _ 0 [(0, _), (1, _)] []
  refine V_cst 0 0 dX8_dusk_0 rfl ?_
  refine V_istore_n 1 [(0, _), (1, _), (2, _)] dX8_dusk_1 (by decide) rfl ?_
  refine V_cst 2 0 dX8_dusk_2 rfl ?_
  refine V_istore_n 3 [(0, _), (1, _), (2, _), (3, _)] dX8_dusk_3 (by decide) rfl ?_
  refine dk1_l (C := C) hE ht hP (P 6 0) 0 I (by omega) hMP ⟨hM.1, hM.2.1, fun q hq => ?_⟩ (fun I1 x hD1 hf1 => ?_)
  · obtain ⟨b1, b2, b3, b4, b5⟩ := hM.2.2 q hq
    refine ⟨?_, ?_, b3, b4, b5⟩
    · rw [b1, if_neg (Nat.not_lt_zero _)]
    · rw [b2, if_neg (fun w => absurd w.1 (Nat.not_lt_zero _))]
  refine V_cst 56 0 dX8_dusk_56 rfl ?_
  refine V_istore_n 57 [(0, _), (1, _), (2, _), (3, _)] dX8_dusk_57 (by decide) rfl ?_
  refine dk2_l (C := C) hE ht hP hC hD (P 6 0) 0 0 I1 (by omega) (Nat.le_refl _) ?_ (hf1.mp hMP) hD1.two (fun I2 y k hk12 hkk hD2 hf2 => ?_)
  · show 0 + 0 + C 2 0 = C 2 0
    omega
  have hf12 := hf1.trans hf2
  refine V_cst 110 0 dX8_dusk_110 rfl ?_
  refine V_istore_n 111 [(0, _), (1, _), (2, _), (3, _)] dX8_dusk_111 (by decide) rfl ?_
  refine dk3_l ht hP (by omega) (P 6 0) 0 I2 (by omega) (hf12.mp hMP) (fun I3 z h3 h3o hf3 => ?_)
  have e83 : I3 80 t = C 0 0 := by rw [h3o 80 (by decide)]; exact hD2.1
  have hd : C 0 0 < 1000000 := hC.1
  refine V_aload_n 150 0 dX8_dusk_150 rfl ?_
  refine V_getR 151 flX8_62 dX8_dusk_151 rfl ?_
  refine V_iload_n 154 1 dX8_dusk_154 rfl ?_
  refine V_dup2 155 dX8_dusk_155 rfl rfl ?_
  refine V_iald 156 dX8_dusk_156 rfl (by omega) (by omega) ?_
  rw [e83]
  refine V_cst 157 1 dX8_dusk_157 rfl ?_
  refine V_add 158 dX8_dusk_158 ?_
  refine V_iast 159 dX8_dusk_159 rfl (by omega) (by omega) ?_
  refine V_iload_n 160 2 dX8_dusk_160 rfl ?_
  have es : s_dusk P C 2 0 = d_C P C (P 6 0) 2 0 := by
    unfold s_dusk
    (try dsimp only)
    rw [w_put_other _ (Or.inl (by decide)), w_put_other _ (Or.inl (by decide))]
    rfl
  refine V_iret 161 dX8_dusk_161 rfl ⟨?_, rfl, rfl, ⟨?_, ?_, fun q hq => ?_⟩, (hf12.trans hf3).p83, by rw [es]; omega, by rw [es]; omega⟩
  · rw [es]
    congr 1
    omega
  · rw [w_put_same]
    unfold s_dusk
    (try dsimp only)
    rw [w_put_same, w_put_other _ (Or.inl (by decide))]
    show _ = d_C P C (P 6 0) 0 0 + 1
    rw [(d_C_more _).1]
  · rw [w_put_ne I3 81 (by decide), h3o 81 (by decide), hD2.2.1]
    unfold s_dusk
    (try dsimp only)
    rw [w_put_other _ (Or.inl (by decide)), w_put_other _ (Or.inl (by decide))]
    show _ = d_C P C (P 6 0) 1 0
    rw [(d_C_more _).2.1]
  · obtain ⟨b1, b2, b3, b4⟩ := hD2.2.2 q hq
    have e1 : q_st (s_dusk P C) q = q_st (d_C P C (P 6 0)) q := by
      apply q_st_of
      · unfold s_dusk
        (try dsimp only)
        rw [w_put_other _ (Or.inl (by decide)), w_put_other _ (Or.inl (by decide))]
        rfl
      · unfold s_dusk
        (try dsimp only)
        rw [w_put_other _ (Or.inl (by decide)), w_put_other _ (Or.inl (by decide))]
        rfl
    have e7 : s_dusk P C 7 q = d_C P C (P 6 0) 7 q := by
      unfold s_dusk
      (try dsimp only)
      rw [w_put_other _ (Or.inl (by decide)), w_put_other _ (Or.inl (by decide))]
      rfl
    have e8 : s_dusk P C 8 q = d_C P C (P 6 0) 8 q := by
      unfold s_dusk
      (try dsimp only)
      rw [w_put_other _ (Or.inl (by decide)), w_put_other _ (Or.inl (by decide))]
      rfl
    rw [e1, e7, e8, w_put_ne I3 82 (by decide), w_put_ne I3 83 (by decide), w_put_ne I3 84 (by decide), h3o 82 (by decide), h3o 83 (by decide), h3 q hq, b1, b2, b4, if_neg (Nat.not_lt_zero _), if_pos hq, (d_C_more _).2.2.1, if_pos hq]
    unfold d_B
    rw [if_pos hq]
    exact ⟨rfl, rfl, rfl⟩
end
