/-! Keeper: what its rows are -/
abbrev FAR : Nat := 1125899906842624
def k_W (P : w_R) (si : Nat) (bp : Bool) (i : Nat) : Nat := if (si / 2 ^ i) &&& 1 ≠ 0 then FAR else (if bp then P 1 i else 1) * 1048576
/-- has (0) and heard (1) behind a meeting -/
def k_lst (P : w_R) (W : Nat → Nat) (Z : w_R) (m g : Nat) : Nat := min (Z 0 (P 3 m) + W (P 3 m) + g) (Z 0 (P 4 m) + W (P 4 m) + 2 * g)
def k_mt (P : w_R) (W : Nat → Nat) (Z : w_R) (m g : Nat) : w_R := fun k i => if k < 2 ∧ (i = P 3 m ∨ i = P 4 m) then min (Z k i) (k_lst P W Z m g) else Z k i
def k_0 (K : Nat) : w_R := fun k i => if k = 0 ∧ (K / 2 ^ i) &&& 1 ≠ 0 then 0 else FAR
def k_day (P : w_R) (W : Nat → Nat) (K n : Nat) : w_R := (List.range n).foldl (fun Z p => k_mt P W Z ((s_ord P).getD p 0) (w_dn p)) (k_0 K)
def k_heard (P : w_R) (W : Nat → Nat) (K i : Nat) : Nat := k_day P W K (P 2 0) 1 i
def k_ds (P : w_R) (W : Nat → Nat) (p t : Nat) : Nat := k_heard P W (2 ^ p) t / 1048576 * 1048576
def k_min (f : Nat → Nat) (n : Nat) : Nat := (List.range n).foldl (fun a i => min a (f i)) FAR
def k_some (P : w_R) (W : Nat → Nat) : Nat → Nat → Nat
  | 0, _ => 0
  | n + 1, p => k_min (fun t => k_ds P W p t + k_some P W n t) (P 0 0)
def k_best (P : w_R) (W : Nat → Nat) (K n : Nat) : Nat := k_min (fun p => k_heard P W K p + k_some P W n p) (P 0 0)
def ZRep (P : w_R) (Z : w_R) (L : w_L) : Prop := ∀ i, i < P 0 0 → L 60 i = Z 0 i ∧ L 61 i = Z 1 i
def WRep (P : w_R) (W : Nat → Nat) (L : w_L) : Prop := ∀ i, i < P 0 0 → L 59 i = W i
def KB (Z : w_R) : Prop := ∀ k i, k < 2 → Z k i ≤ FAR
theorem k_mt_b {P : w_R} {W : Nat → Nat} {Z : w_R} {m g : Nat} (h : KB Z) : KB (k_mt P W Z m g) := by
  intro k i hk
  unfold k_mt
  split
  · exact Nat.le_trans (Nat.min_le_left _ _) (h k i hk)
  · exact h k i hk
theorem k_0_b (K : Nat) : KB (k_0 K) := by
  intro k i _
  unfold k_0
  split
  · exact Nat.zero_le _
  · exact Nat.le_refl _
theorem k_day_succ {P : w_R} {W : Nat → Nat} {K n : Nat} : k_day P W K (n + 1) = k_mt P W (k_day P W K n) ((s_ord P).getD n 0) (w_dn n) := by
  unfold k_day
  rw [List.range_succ, List.foldl_append]
  rfl
theorem k_day_b {P : w_R} {W : Nat → Nat} {K : Nat} : ∀ n, KB (k_day P W K n) := by
  intro n
  induction n with
  | zero => exact k_0_b K
  | succ n ih => rw [k_day_succ]; exact k_mt_b ih
theorem k_min_succ (f : Nat → Nat) (n : Nat) : k_min f (n + 1) = min (k_min f n) (f n) := by
  unfold k_min
  rw [List.range_succ, List.foldl_append]
  rfl
theorem k_min_le (f : Nat → Nat) : ∀ n, k_min f n ≤ FAR := by
  intro n
  induction n with
  | zero => exact Nat.le_refl _
  | succ n ih => rw [k_min_succ]; exact Nat.le_trans (Nat.min_le_left _ _) ih
theorem k_some_le (P : w_R) (W : Nat → Nat) (n p : Nat) : k_some P W n p ≤ FAR := by
  cases n with
  | zero => exact Nat.zero_le _
  | succ n => exact k_min_le _ _
theorem k_heard_le (P : w_R) (W : Nat → Nat) (K i : Nat) : k_heard P W K i ≤ FAR := k_day_b _ 1 i (by decide)
theorem k_ds_le (P : w_R) (W : Nat → Nat) (p t : Nat) : k_ds P W p t ≤ FAR := Nat.le_trans (Nat.div_mul_le_self _ _) (k_heard_le _ _ _ _)
theorem w_dn_lt (j : Nat) : w_dn j < 200000 := by
  unfold w_dn
  rw [List.getD_eq_getElem?_getD]
  rcases Nat.lt_or_ge j 12 with h | h
  · rcases (show j = 0 ∨ j = 1 ∨ j = 2 ∨ j = 3 ∨ j = 4 ∨ j = 5 ∨ j = 6 ∨ j = 7 ∨ j = 8 ∨ j = 9 ∨ j = 10 ∨ j = 11 by omega) with rfl | rfl | rfl | rfl | rfl | rfl | rfl | rfl | rfl | rfl | rfl | rfl <;> decide
  · rw [List.getElem?_eq_none (by simpa using h)]
    decide
section
variable {Ω : w_O} {d u v : Nat} {I : w_I} {E : w_E} {P : w_R} {W : Nat → Nat}
theorem ZRep.fr {Z : w_R} {L L' : w_L} {lo hi : Nat} (h : ZRep P Z L) (hf : Fr lo hi L L') (hb : 62 ≤ lo ∨ hi ≤ 60) : ZRep P Z L' := by
  unfold ZRep
  rw [hf 60 (by omega), hf 61 (by omega)]
  exact h
theorem WRep.fr {L L' : w_L} {lo hi : Nat} (h : WRep P W L) (hf : Fr lo hi L L') (hb : 60 ≤ lo ∨ hi ≤ 59) : WRep P W L' := by
  unfold WRep
  rw [hf 59 (by omega)]
  exact h
theorem c_throughMeeting {L : w_L} {Z : w_R} {m g : Nat} (hP : s_POK P) (hR : PRep 15 P I) (hm : m < P 2 0) (hg : g < 200000) (hW : WRep P W L) (hWb : ∀ i, W i ≤ FAR) (hZ : ZRep P Z L) (hB : KB Z) : FnV Ω (d + 1) mX2_throughMeeting [.ref (Ω.1 + 58), .int (nI m), .int (nI g)] (SH u v) I L (fun S' I' L' => S' = SH u v ∧ I = I' ∧ ZRep P (k_mt P W Z m g) L' ∧ Fr 60 62 L L') := by
  obtain ⟨f1, f2, f3, f4⟩ := hP.2.2.2.1 m hm
  obtain ⟨r1, r2, r3⟩ := hR.2.2.2.1 m hm
  have h6 := hP.1.2
  have h12 := hP.2.2.1
  have a1 := hZ _ f1
  have a2 := hZ _ f2
  have w1 := hW _ f1
  have w2 := hW _ f2
  have b1 := hB 0 (P 3 m) (by decide)
  have b2 := hB 0 (P 4 m) (by decide)
  have b3 := hB 1 (P 3 m) (by decide)
  have b4 := hB 1 (P 4 m) (by decide)
  have c1 := hWb (P 3 m)
  have c2 := hWb (P 4 m)
  have hFAR : FAR = 1125899906842624 := rfl
  refine FnR_of okX2_throughMeeting (Nat.le_of_ble_eq_true rfl) fun l z => ?_
  have hE : w_fit d (w_Er l (d + 1) 0 0 Ω (w_pv (fun S' I' L' => S' = SH u v ∧ I = I' ∧ ZRep P (k_mt P W Z m g) L' ∧ Fr 60 62 L L')) z) := w_fit_r
  show V _ _ _ _ _ _ _ _ 0 [(0, _), (1, _), (2, _)] []
  refine V_aload_n 0 0 dX2_throughMeeting_0 rfl ?_
  refine V_getR 1 flX2_30 dX2_throughMeeting_1 rfl ?_
  refine V_getR 4 flX2_89 dX2_throughMeeting_4 rfl ?_
  refine V_iload_n 7 1 dX2_throughMeeting_7 rfl ?_
  refine V_iald 8 dX2_throughMeeting_8 rfl (by omega) (by omega) ?_
  rw [r1]
  refine V_istore_n 9 [(0, _), (1, _), (2, _), (3, _)] dX2_throughMeeting_9 (by decide) rfl ?_
  refine V_aload_n 10 0 dX2_throughMeeting_10 rfl ?_
  refine V_getR 11 flX2_30 dX2_throughMeeting_11 rfl ?_
  refine V_getR 14 flX2_92 dX2_throughMeeting_14 rfl ?_
  refine V_iload_n 17 1 dX2_throughMeeting_17 rfl ?_
  refine V_iald 18 dX2_throughMeeting_18 rfl (by omega) (by omega) ?_
  rw [r2]
  refine V_istore 19 [(0, _), (1, _), (2, _), (3, _), (4, _)] dX2_throughMeeting_19 (by decide) rfl ?_
  refine V_aload_n 21 0 dX2_throughMeeting_21 rfl ?_
  refine V_getR 22 flX2_15 dX2_throughMeeting_22 rfl ?_
  refine V_iload_n 25 3 dX2_throughMeeting_25 rfl ?_
  refine V_lald 26 dX2_throughMeeting_26 rfl (by omega) (by omega) ?_
  rw [a1.1]
  refine V_aload_n 27 0 dX2_throughMeeting_27 rfl ?_
  refine V_getR 28 flX2_11 dX2_throughMeeting_28 rfl ?_
  refine V_iload_n 31 3 dX2_throughMeeting_31 rfl ?_
  refine V_lald 32 dX2_throughMeeting_32 rfl (by omega) (by omega) ?_
  rw [w1]
  refine V_addl 33 dX2_throughMeeting_33 ?_
  refine V_iload_n 34 2 dX2_throughMeeting_34 rfl ?_
  refine V_widen 35 dX2_throughMeeting_35 (by omega) ?_
  refine V_addl 36 dX2_throughMeeting_36 ?_
  refine V_lstore 37 [(0, _), (1, _), (2, _), (3, _), (4, _), (5, _)] dX2_throughMeeting_37 (by decide) rfl ?_
  refine V_aload_n 39 0 dX2_throughMeeting_39 rfl ?_
  refine V_getR 40 flX2_15 dX2_throughMeeting_40 rfl ?_
  refine V_iload 43 4 dX2_throughMeeting_43 rfl ?_
  refine V_lald 45 dX2_throughMeeting_45 rfl (by omega) (by omega) ?_
  rw [a2.1]
  refine V_aload_n 46 0 dX2_throughMeeting_46 rfl ?_
  refine V_getR 47 flX2_11 dX2_throughMeeting_47 rfl ?_
  refine V_iload 50 4 dX2_throughMeeting_50 rfl ?_
  refine V_lald 52 dX2_throughMeeting_52 rfl (by omega) (by omega) ?_
  rw [w2]
  refine V_addl 53 dX2_throughMeeting_53 ?_
  refine V_cst 54 2 dX2_throughMeeting_54 rfl ?_
  refine V_iload_n 55 2 dX2_throughMeeting_55 rfl ?_
  refine V_mul 56 dX2_throughMeeting_56 ?_
  refine V_widen 57 dX2_throughMeeting_57 (by omega) ?_
  refine V_addl 58 dX2_throughMeeting_58 ?_
  refine V_lstore 59 [(0, _), (1, _), (2, _), (3, _), (4, _), (5, _), (7, _)] dX2_throughMeeting_59 (by decide) rfl ?_
  refine V_lload 61 5 dX2_throughMeeting_61 rfl ?_
  refine V_lload 63 6 dX2_throughMeeting_63 rfl ?_
  have hl1 : min (Z 0 (P 3 m) + W (P 3 m) + g) (Z 0 (P 4 m) + W (P 4 m) + 2 * g) ≤ Z 0 (P 3 m) + W (P 3 m) + g := Nat.min_le_left _ _
  refine V_minl 65 (by omega) (by omega) mmX2_60 dX2_throughMeeting_65 (w_fit.mono (by omega) hE) (Nat.le_of_ble_eq_true rfl) ?_
  rw [show min (Z 0 (P 3 m) + W (P 3 m) + g) (Z 0 (P 4 m) + W (P 4 m) + 2 * g) = k_lst P W Z m g from rfl] at hl1 ⊢
  generalize hlst : k_lst P W Z m g = q at hl1 ⊢
  refine V_lstore 68 [(0, _), (1, _), (2, _), (3, _), (4, _), (5, _), (7, _), (9, _)] dX2_throughMeeting_68 (by decide) rfl ?_
  refine V_aload_n 70 0 dX2_throughMeeting_70 rfl ?_
  refine V_getR 71 flX2_15 dX2_throughMeeting_71 rfl ?_
  refine V_iload_n 74 3 dX2_throughMeeting_74 rfl ?_
  refine V_aload_n 75 0 dX2_throughMeeting_75 rfl ?_
  refine V_getR 76 flX2_15 dX2_throughMeeting_76 rfl ?_
  refine V_iload_n 79 3 dX2_throughMeeting_79 rfl ?_
  refine V_lald 80 dX2_throughMeeting_80 rfl (by omega) (by omega) ?_
  rw [a1.1]
  refine V_lload 81 7 dX2_throughMeeting_81 rfl ?_
  refine V_minl 83 (by omega) (by omega) mmX2_60 dX2_throughMeeting_83 (w_fit.mono (by omega) hE) (Nat.le_of_ble_eq_true rfl) ?_
  refine V_last 86 dX2_throughMeeting_86 rfl (by omega) (by omega) ?_
  refine V_aload_n 87 0 dX2_throughMeeting_87 rfl ?_
  refine V_getR 88 flX2_15 dX2_throughMeeting_88 rfl ?_
  refine V_iload 91 4 dX2_throughMeeting_91 rfl ?_
  refine V_aload_n 93 0 dX2_throughMeeting_93 rfl ?_
  refine V_getR 94 flX2_15 dX2_throughMeeting_94 rfl ?_
  refine V_iload 97 4 dX2_throughMeeting_97 rfl ?_
  refine V_lald 99 dX2_throughMeeting_99 rfl (by omega) (by omega) ?_
  rw [w_put_other _ (Or.inr (by omega)), a2.1]
  refine V_lload 100 7 dX2_throughMeeting_100 rfl ?_
  refine V_minl 102 (by omega) (by omega) mmX2_60 dX2_throughMeeting_102 (w_fit.mono (by omega) hE) (Nat.le_of_ble_eq_true rfl) ?_
  refine V_last 105 dX2_throughMeeting_105 rfl (by omega) (by omega) ?_
  refine V_aload_n 106 0 dX2_throughMeeting_106 rfl ?_
  refine V_getR 107 flX2_18 dX2_throughMeeting_107 rfl ?_
  refine V_iload_n 110 3 dX2_throughMeeting_110 rfl ?_
  refine V_aload_n 111 0 dX2_throughMeeting_111 rfl ?_
  refine V_getR 112 flX2_18 dX2_throughMeeting_112 rfl ?_
  refine V_iload_n 115 3 dX2_throughMeeting_115 rfl ?_
  refine V_lald 116 dX2_throughMeeting_116 rfl (by omega) (by omega) ?_
  rw [w_put_other _ (Or.inl (by decide)), w_put_other _ (Or.inl (by decide)), a1.2]
  refine V_lload 117 7 dX2_throughMeeting_117 rfl ?_
  refine V_minl 119 (by omega) (by omega) mmX2_60 dX2_throughMeeting_119 (w_fit.mono (by omega) hE) (Nat.le_of_ble_eq_true rfl) ?_
  refine V_last 122 dX2_throughMeeting_122 rfl (by omega) (by omega) ?_
  refine V_aload_n 123 0 dX2_throughMeeting_123 rfl ?_
  refine V_getR 124 flX2_18 dX2_throughMeeting_124 rfl ?_
  refine V_iload 127 4 dX2_throughMeeting_127 rfl ?_
  refine V_aload_n 129 0 dX2_throughMeeting_129 rfl ?_
  refine V_getR 130 flX2_18 dX2_throughMeeting_130 rfl ?_
  refine V_iload 133 4 dX2_throughMeeting_133 rfl ?_
  refine V_lald 135 dX2_throughMeeting_135 rfl (by omega) (by omega) ?_
  rw [w_put_other _ (Or.inr (by omega)), w_put_other _ (Or.inl (by decide)), w_put_other _ (Or.inl (by decide)), a2.2]
  refine V_lload 136 7 dX2_throughMeeting_136 rfl ?_
  refine V_minl 138 (by omega) (by omega) mmX2_60 dX2_throughMeeting_138 (w_fit.mono (by omega) hE) (Nat.le_of_ble_eq_true rfl) ?_
  refine V_last 141 dX2_throughMeeting_141 rfl (by omega) (by omega) ?_
  refine V_ret 142 dX2_throughMeeting_142 rfl ⟨rfl, rfl, ?_, (((Fr.rf.put (by decide) (by decide)).put (by decide) (by decide)).put (by decide) (by decide)).put (by decide) (by decide)⟩
  intro i hi
  obtain ⟨z1, z2⟩ := hZ i hi
  unfold k_mt
  rw [hlst]
  by_cases e1 : i = P 3 m
  · subst e1
    simp only [w_put_eq, f3, and_false, and_true, true_and, if_true, if_false, true_or, Nat.reduceLT, and_self, Nat.reduceEqDiff, reduceIte]
  · by_cases e2 : i = P 4 m
    · subst e2
      simp only [w_put_eq, e1, and_false, and_true, true_and, if_true, if_false, or_true, Nat.reduceLT, and_self, Nat.reduceEqDiff, reduceIte]
    · simp only [w_put_eq, e1, e2, and_false, or_self, if_false]
      exact ⟨z1, z2⟩
end
